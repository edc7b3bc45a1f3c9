/-! THE TEXT OF ORDERS: what is read at a place -/
def xS (f : aF) (n p : Nat) : Int32 := if p < n then f p else 0
def tC (f : aF) (n : Nat) : Nat → Nat → Nat
  | 0, _ => 0
  | m + 1, p => if xS f n p < 48 then 0 else if 57 < xS f n p then 0 else tC f n m (p + 1) + 1
def tV (f : aF) (n : Nat) : Nat → Nat → Int32 → Int32
  | 0, _, a => a
  | m + 1, p, a => if xS f n p < 48 then a else if 57 < xS f n p then a else tV f n m (p + 1) (a * 10 + xS f n p - 48)
def tSg (f : aF) (n p : Nat) : Nat × Int32 × Nat := if xS f n p = 45 then (tC f n 3 (p + 1), -tV f n 3 (p + 1) 0, p + 1 + tC f n 3 (p + 1)) else (tC f n 3 p, tV f n 3 p 0, p + tC f n 3 p)
/-- an order at a place: its sign, its numbers, the place behind it -/
def xO (f : aF) (n p : Nat) : Option (Int32 × Int32 × Int32 × Nat) :=
  if xS f n p = 99 ∨ xS f n p = 111 then (if 0 < tC f n 2 (p + 1) ∧ xS f n (p + 1 + tC f n 2 (p + 1)) = 59 then some (xS f n p, tV f n 2 (p + 1) 0, 0, p + 1 + tC f n 2 (p + 1) + 1) else none)
  else if xS f n p = 118 then
    (if 0 < (tSg f n (p + 1)).1 ∧ xS f n (tSg f n (p + 1)).2.2 = 44 ∧ 0 < (tSg f n ((tSg f n (p + 1)).2.2 + 1)).1 ∧ xS f n (tSg f n ((tSg f n (p + 1)).2.2 + 1)).2.2 = 59
     then some (118, (tSg f n (p + 1)).2.1, (tSg f n ((tSg f n (p + 1)).2.2 + 1)).2.1, (tSg f n ((tSg f n (p + 1)).2.2 + 1)).2.2 + 1) else none)
  else if xS f n p = 116 then (if xS f n (p + 1) = 59 then some (116, 0, 0, p + 1 + 1) else none) else none
theorem tC_le (f : aF) (n : Nat) : ∀ m p, tC f n m p ≤ m
  | 0, _ => Nat.le_refl _
  | m + 1, p => by
    unfold tC
    have := tC_le f n m (p + 1)
    split
    · omega
    · split <;> omega
theorem tSg_le (f : aF) (n p : Nat) : (tSg f n p).2.2 ≤ p + 4 := by
  unfold tSg
  have h1 := tC_le f n 3 p
  have h2 := tC_le f n 3 (p + 1)
  split
  · show p + 1 + tC f n 3 (p + 1) ≤ _; omega
  · show p + tC f n 3 p ≤ _; omega
theorem tC_y {f : aF} {n m p : Nat} (h : q_dig (xS f n p)) : tC f n (m + 1) p = tC f n m (p + 1) + 1 := by
  show (if _ then _ else _) = _
  rw [if_neg h.1, if_neg h.2]
theorem tC_n {f : aF} {n m p : Nat} (h : ¬ q_dig (xS f n p)) : tC f n (m + 1) p = 0 := by
  show (if _ then _ else _) = _
  by_cases h1 : xS f n p < 48
  · rw [if_pos h1]
  · rw [if_neg h1, if_pos (Classical.byContradiction fun h2 => h ⟨h1, h2⟩)]
theorem tV_y {f : aF} {n m p : Nat} {a : Int32} (h : q_dig (xS f n p)) : tV f n (m + 1) p a = tV f n m (p + 1) (a * 10 + xS f n p - 48) := by
  show (if _ then _ else _) = _
  rw [if_neg h.1, if_neg h.2]
theorem tV_n {f : aF} {n m p : Nat} {a : Int32} (h : ¬ q_dig (xS f n p)) : tV f n (m + 1) p a = a := by
  show (if _ then _ else _) = _
  by_cases h1 : xS f n p < 48
  · rw [if_pos h1]
  · rw [if_neg h1, if_pos (Classical.byContradiction fun h2 => h ⟨h1, h2⟩)]
theorem nI_gt0 {k : Nat} (hk : k < 2 ^ 31) : ¬ nI k ≤ 0 ↔ 0 < k := by
  have := nI_leI (a := k) (b := 0) hk (by omega)
  rw [nI_0] at this
  rw [this]; omega
set_option maxHeartbeats 4000000 in
set_option maxRecDepth 100000 in
theorem C_X1_signAt {C : aF} {Hs : tH} {Sw : tS} {T1 : tT} {P1 : tP} {T2 : tT} {P2 : tP} {f : aF} {n : Nat} {bg en kd fi se nu : Int32} (hn : n ≤ 60) {p : Nat} (hp : p < 2 ^ 31) : mCt k_X1_signAt [.ref 22, .int (nI p)] (cH C Hs Sw T1 P1 (f, nI n, bg, en, kd, fi, se, nu) T2 P2) (some (.int (xS f n p))) (cH C Hs Sw T1 P1 (f, nI n, bg, en, kd, fi, se, nu) T2 P2) := by
  refine mCt_intro (plainFor_of_name rfl) (Nat.le_of_ble_eq_true rfl) (m_all rfl) (ls := [_, _]) rfl ?_
  refine mJ_iload_n dX1_signAt_0 rfl ?_
  refine mJ_aload_n dX1_signAt_1 rfl ?_
  refine mJ_get_22_1 dX1_signAt_2 f_X1_20 ?_
  refine mJ_icmp_ge 19 dX1_signAt_5 rfl (fun c_5 => ?_) (fun c_5 => ?_)
  · refine mJ_iconst (v := 0) dX1_signAt_19 rfl ?_
    exact mJ_iret dX1_signAt_20 rfl (by rw [show xS f n p = _ from if_neg (fun q => nI_ge q (by omega) c_5)]) (rfl)
  · refine mJ_aload_n dX1_signAt_8 rfl ?_
    refine mJ_get dX1_signAt_9 f_X1_14 rfl rfl ?_
    refine mJ_iload_n dX1_signAt_12 rfl ?_
    refine mJ_cV1i dX1_signAt_13 e_X3_get n_X1_74 ⟨Nat.le_of_ble_eq_true rfl, Nat.le_of_ble_eq_true rfl⟩ rfl rfl (Nat.le_of_ble_eq_true rfl) (C_X3_get rfl rfl (Nat.le_of_ble_eq_true rfl)) ?_
    refine mJ_goto 20 dX1_signAt_16 rfl ?_
    exact mJ_iret dX1_signAt_20 rfl (by rw [show xS f n p = _ from if_pos (Nat.lt_of_not_le fun q => c_5 (nI_le q (by omega)))]; rw [rg_in _ (show p < 60 by have := Nat.lt_of_not_le fun q => c_5 (nI_le q hp); omega) (by omega)]) (rfl)
set_option maxHeartbeats 4000000 in
set_option maxRecDepth 100000 in
theorem C_X1_pass {C : aF} {Hs : tH} {Sw : tS} {T1 : tT} {P1 : tP} {T2 : tT} {P2 : tP} {f : aF} {n : Nat} {bg kd fi se nu : Int32} (hn : n ≤ 60) {p : Nat} {v : Int32} (hp : p < 2 ^ 31) : mCt k_X1_pass [.ref 22, .int v] (cH C Hs Sw T1 P1 (f, nI n, bg, (nI p), kd, fi, se, nu) T2 P2) (some (.int (b2i (xS f n p = v)))) (cH C Hs Sw T1 P1 (f, nI n, bg, (iif (xS f n p = v) (nI (p + 1)) (nI p)), kd, fi, se, nu) T2 P2) := by
  refine mCt_intro (plainFor_of_name rfl) (Nat.le_of_ble_eq_true rfl) (m_all rfl) (ls := [_, _]) rfl ?_
  refine mJ_aload_n dX1_pass_0 rfl ?_
  refine mJ_aload_n dX1_pass_1 rfl ?_
  refine mJ_get_22_3 dX1_pass_2 f_X1_38 ?_
  refine mJ_cV1i dX1_pass_5 e_X1_signAt n_X1_44 ⟨Nat.le_of_ble_eq_true rfl, Nat.le_of_ble_eq_true rfl⟩ rfl rfl (Nat.le_of_ble_eq_true rfl) (C_X1_signAt hn hp) ?_
  refine mJ_iload_n dX1_pass_8 rfl ?_
  refine mJ_icmp_eq 14 dX1_pass_9 rfl (fun c_9 => ?_) (fun c_9 => ?_)
  · refine mJ_aload_n dX1_pass_14 rfl ?_
    refine mJ_dup dX1_pass_15 rfl ?_
    refine mJ_get_22_3 dX1_pass_16 f_X1_38 ?_
    refine mJ_iconst (v := 1) dX1_pass_19 rfl ?_
    refine mJ_iadd dX1_pass_20 ?_
    refine mJ_top (nI_1 p) ?_
    refine mJ_put_22_3 dX1_pass_21 p_X1_38 ?_
    refine mJ_iconst (v := 1) dX1_pass_24 rfl ?_
    exact mJ_zret dX1_pass_25 rfl (Or.inr rfl) (z_t c_9) (by rw [iif_t c_9])
  · refine mJ_iconst (v := 0) dX1_pass_12 rfl ?_
    exact mJ_zret dX1_pass_13 rfl (Or.inl rfl) (z_f c_9) (by rw [iif_f c_9])
set_option maxHeartbeats 4000000 in
set_option maxRecDepth 100000 in
theorem C_X1_pass_t {C : aF} {Hs : tH} {Sw : tS} {T1 : tT} {P1 : tP} {T2 : tT} {P2 : tP} {f : aF} {n : Nat} {bg kd fi se nu : Int32} (hn : n ≤ 60) {p : Nat} {v : Int32} (hp : p < 2 ^ 31) (h : xS f n p = v) : mCt k_X1_pass [.ref 22, .int v] (cH C Hs Sw T1 P1 (f, nI n, bg, (nI p), kd, fi, se, nu) T2 P2) (some (.int (b2i (xS f n p = v)))) (cH C Hs Sw T1 P1 (f, nI n, bg, (nI (p + 1)), kd, fi, se, nu) T2 P2) := by
  have := C_X1_pass (C := C) (Hs := Hs) (Sw := Sw) (T1 := T1) (P1 := P1) (T2 := T2) (P2 := P2) (f := f) (bg := bg) (kd := kd) (fi := fi) (se := se) (nu := nu) hn (v := v) hp
  rw [iif_t h] at this
  exact this
set_option maxHeartbeats 4000000 in
set_option maxRecDepth 100000 in
theorem C_X1_pass_f {C : aF} {Hs : tH} {Sw : tS} {T1 : tT} {P1 : tP} {T2 : tT} {P2 : tP} {f : aF} {n : Nat} {bg kd fi se nu : Int32} (hn : n ≤ 60) {p : Nat} {v : Int32} (hp : p < 2 ^ 31) (h : ¬ xS f n p = v) : mCt k_X1_pass [.ref 22, .int v] (cH C Hs Sw T1 P1 (f, nI n, bg, (nI p), kd, fi, se, nu) T2 P2) (some (.int (b2i (xS f n p = v)))) (cH C Hs Sw T1 P1 (f, nI n, bg, (nI p), kd, fi, se, nu) T2 P2) := by
  have := C_X1_pass (C := C) (Hs := Hs) (Sw := Sw) (T1 := T1) (P1 := P1) (T2 := T2) (P2 := P2) (f := f) (bg := bg) (kd := kd) (fi := fi) (se := se) (nu := nu) hn (v := v) hp
  rw [iif_f h] at this
  exact this
set_option maxHeartbeats 4000000 in
set_option maxRecDepth 100000 in
theorem L_X1_readDigits {C : aF} {Hs : tH} {Sw : tS} {T1 : tT} {P1 : tP} {T2 : tT} {P2 : tP} {f : aF} {n : Nat} {bg kd fi se : Int32} (hn : n ≤ 60) {M : Nat} (hM : M ≤ 3) : ∀ (m k p : Nat) (a : Int32), k + m = M → p + m < 1000 → mJ k_X1_readDigits 7 [.ref 22, .int (nI M), .int (nI k)] [] (cH C Hs Sw T1 P1 (f, nI n, bg, (nI p), kd, fi, se, a) T2 P2) (some (.int (b2i (0 < k + tC f n m p)))) (cH C Hs Sw T1 P1 (f, nI n, bg, (nI (p + tC f n m p)), kd, fi, se, (tV f n m p a)) T2 P2) := by
  intro m
  induction m with
  | zero =>
    intro k p a hk hp
    have hkM : k = M := by omega
    refine mJ_iload_n dX1_readDigits_7 rfl ?_
    refine mJ_iload_n dX1_readDigits_8 rfl ?_
    refine mJ_icmp_ge 65 dX1_readDigits_9 rfl (fun c_9 => ?_) (fun c_9 => False.elim (by exact c_9 (nI_le (by omega) (by omega))))
    refine mJ_iload_n dX1_readDigits_65 rfl ?_
    refine mJ_if_le 73 dX1_readDigits_66 rfl (fun c_66 => ?_) (fun c_66 => ?_)
    · refine mJ_iconst (v := 0) dX1_readDigits_73 rfl ?_
      exact mJ_zret dX1_readDigits_74 rfl (Or.inl rfl) (z_f (fun q => (nI_gt0 (k := k) (by omega)).mpr q c_66)) (rfl)
    · refine mJ_iconst (v := 1) dX1_readDigits_69 rfl ?_
      refine mJ_goto 74 dX1_readDigits_70 rfl ?_
      exact mJ_zret dX1_readDigits_74 rfl (Or.inr rfl) (z_t ((nI_gt0 (k := k) (by omega)).mp c_66)) (rfl)
  | succ m ih =>
    intro k p a hk hp
    refine mJ_iload_n dX1_readDigits_7 rfl ?_
    refine mJ_iload_n dX1_readDigits_8 rfl ?_
    refine mJ_icmp_ge 65 dX1_readDigits_9 rfl (fun c_9 => False.elim (by exact nI_ge (show k < M by omega) (by omega) c_9)) (fun c_9 => ?_)
    refine mJ_aload_n dX1_readDigits_12 rfl ?_
    refine mJ_aload_n dX1_readDigits_13 rfl ?_
    refine mJ_get_22_3 dX1_readDigits_14 f_X1_38 ?_
    refine mJ_cV1i dX1_readDigits_17 e_X1_signAt n_X1_44 ⟨Nat.le_of_ble_eq_true rfl, Nat.le_of_ble_eq_true rfl⟩ rfl rfl (Nat.le_of_ble_eq_true rfl) (C_X1_signAt hn (p := p) (by omega)) ?_
    refine mJ_cS1i dX1_readDigits_20 e_X1_isDigit n_X1_71 ⟨Nat.le_of_ble_eq_true rfl, Nat.le_of_ble_eq_true rfl⟩ (Nat.le_of_ble_eq_true rfl) (C_X1_isDigit) ?_
    refine mJ_b2i (fun b_20 => ?_) (fun b_20 => ?_)
    · refine mJ_if_eq 65 dX1_readDigits_23 rfl (fun c => absurd c (by decide)) (fun _ => ?_)
      refine mJ_aload_n dX1_readDigits_26 rfl ?_
      refine mJ_aload_n dX1_readDigits_27 rfl ?_
      refine mJ_get_22_7 dX1_readDigits_28 f_X1_62 ?_
      refine mJ_bipush (v := 10) dX1_readDigits_31 rfl ?_
      refine mJ_imul dX1_readDigits_33 ?_
      refine mJ_aload_n dX1_readDigits_34 rfl ?_
      refine mJ_aload_n dX1_readDigits_35 rfl ?_
      refine mJ_get_22_3 dX1_readDigits_36 f_X1_38 ?_
      refine mJ_cV1i dX1_readDigits_39 e_X1_signAt n_X1_44 ⟨Nat.le_of_ble_eq_true rfl, Nat.le_of_ble_eq_true rfl⟩ rfl rfl (Nat.le_of_ble_eq_true rfl) (C_X1_signAt hn (p := p) (by omega)) ?_
      refine mJ_iadd dX1_readDigits_42 ?_
      refine mJ_bipush (v := 48) dX1_readDigits_43 rfl ?_
      refine mJ_isub dX1_readDigits_45 ?_
      refine mJ_put_22_7 dX1_readDigits_46 p_X1_62 ?_
      refine mJ_aload_n dX1_readDigits_49 rfl ?_
      refine mJ_dup dX1_readDigits_50 rfl ?_
      refine mJ_get_22_3 dX1_readDigits_51 f_X1_38 ?_
      refine mJ_iconst (v := 1) dX1_readDigits_54 rfl ?_
      refine mJ_iadd dX1_readDigits_55 ?_
      refine mJ_top (nI_1 p) ?_
      refine mJ_put_22_3 dX1_readDigits_56 p_X1_38 ?_
      refine mJ_iinc dX1_readDigits_59 rfl (Nat.le_of_ble_eq_true rfl) (v := nI (k + 1)) (nI_1 k) (ls2 := [_, _, _]) rfl ?_
      refine mJ_goto 7 dX1_readDigits_62 rfl ?_
      rw [tC_y b_20, tV_y b_20, show k + (tC f n m (p + 1) + 1) = k + 1 + tC f n m (p + 1) by omega, show p + (tC f n m (p + 1) + 1) = p + 1 + tC f n m (p + 1) by omega]
      exact ih (k + 1) (p + 1) _ (by omega) (by omega)
    · refine mJ_if_eq 65 dX1_readDigits_23 rfl (fun _ => ?_) (fun c => absurd c (by decide))
      refine mJ_iload_n dX1_readDigits_65 rfl ?_
      refine mJ_if_le 73 dX1_readDigits_66 rfl (fun c_66 => ?_) (fun c_66 => ?_)
      · refine mJ_iconst (v := 0) dX1_readDigits_73 rfl ?_
        exact mJ_zret dX1_readDigits_74 rfl (Or.inl rfl) (by rw [tC_n b_20]; exact z_f (fun q => (nI_gt0 (k := k) (by omega)).mpr q c_66)) (by rw [tC_n b_20, tV_n b_20]; rfl)
      · refine mJ_iconst (v := 1) dX1_readDigits_69 rfl ?_
        refine mJ_goto 74 dX1_readDigits_70 rfl ?_
        exact mJ_zret dX1_readDigits_74 rfl (Or.inr rfl) (by rw [tC_n b_20]; exact z_t ((nI_gt0 (k := k) (by omega)).mp c_66)) (by rw [tC_n b_20, tV_n b_20]; rfl)
set_option maxHeartbeats 4000000 in
set_option maxRecDepth 100000 in
theorem C_X1_readDigits {C : aF} {Hs : tH} {Sw : tS} {T1 : tT} {P1 : tP} {T2 : tT} {P2 : tP} {f : aF} {n : Nat} {bg kd fi se nu : Int32} (hn : n ≤ 60) {M p : Nat} (hM : M ≤ 3) (hp : p < 900) : mCt k_X1_readDigits [.ref 22, .int (nI M)] (cH C Hs Sw T1 P1 (f, nI n, bg, (nI p), kd, fi, se, nu) T2 P2) (some (.int (b2i (0 < tC f n M p)))) (cH C Hs Sw T1 P1 (f, nI n, bg, (nI (p + tC f n M p)), kd, fi, se, (tV f n M p 0)) T2 P2) := by
  refine mCt_intro (plainFor_of_name rfl) (Nat.le_of_ble_eq_true rfl) (m_all rfl) (ls := [_, _, _]) rfl ?_
  refine mJ_aload_n dX1_readDigits_0 rfl ?_
  refine mJ_iconst (v := 0) dX1_readDigits_1 rfl ?_
  refine mJ_put_22_7 dX1_readDigits_2 p_X1_62 ?_
  refine mJ_iconst (v := 0) dX1_readDigits_5 rfl ?_
  refine mJ_istore_n dX1_readDigits_6 (Nat.le_of_ble_eq_true rfl) (ls2 := [_, _, _]) rfl ?_
  have h0 := L_X1_readDigits (C := C) (Hs := Hs) (Sw := Sw) (T1 := T1) (P1 := P1) (T2 := T2) (P2 := P2) (bg := bg) (kd := kd) (fi := fi) (se := se) (f := f) hn hM M 0 p 0 (by omega) (by omega)
  rw [Nat.zero_add] at h0
  exact h0
set_option maxHeartbeats 4000000 in
set_option maxRecDepth 100000 in
theorem C_X1_readHint {C : aF} {Hs : tH} {Sw : tS} {T1 : tT} {P1 : tP} {T2 : tT} {P2 : tP} {f : aF} {n : Nat} {bg kd fi se nu : Int32} (hn : n ≤ 60) {p : Nat} (hp : p < 900) : mCt k_X1_readHint [.ref 22] (cH C Hs Sw T1 P1 (f, nI n, bg, (nI p), kd, fi, se, nu) T2 P2) (some (.int (b2i (0 < tC f n 2 p)))) (cH C Hs Sw T1 P1 (f, nI n, bg, (nI (p + tC f n 2 p)), kd, (tV f n 2 p 0), se, (tV f n 2 p 0)) T2 P2) := by
  refine mCt_intro (plainFor_of_name rfl) (Nat.le_of_ble_eq_true rfl) (m_all rfl) (ls := [_, _]) rfl ?_
  refine mJ_aload_n dX1_readHint_0 rfl ?_
  refine mJ_iconst (v := 2) dX1_readHint_1 rfl ?_
  refine mJ_cV1i dX1_readHint_2 e_X1_readDigits n_X1_59 ⟨Nat.le_of_ble_eq_true rfl, Nat.le_of_ble_eq_true rfl⟩ rfl rfl (Nat.le_of_ble_eq_true rfl) (C_X1_readDigits hn (M := 2) (by omega) hp) ?_
  refine mJ_istore_n dX1_readHint_5 (Nat.le_of_ble_eq_true rfl) (ls2 := [_, _]) rfl ?_
  refine mJ_aload_n dX1_readHint_6 rfl ?_
  refine mJ_aload_n dX1_readHint_7 rfl ?_
  refine mJ_get_22_7 dX1_readHint_8 f_X1_62 ?_
  refine mJ_put_22_5 dX1_readHint_11 p_X1_35 ?_
  refine mJ_iload_n dX1_readHint_14 rfl ?_
  exact mJ_zret dX1_readHint_15 rfl (b2i_01 _) (rfl) (rfl)
set_option maxHeartbeats 4000000 in
set_option maxRecDepth 100000 in
theorem C_X1_readSigned {C : aF} {Hs : tH} {Sw : tS} {T1 : tT} {P1 : tP} {T2 : tT} {P2 : tP} {f : aF} {n : Nat} {bg kd fi se nu : Int32} (hn : n ≤ 60) {p : Nat} (hp : p < 800) : mCt k_X1_readSigned [.ref 22] (cH C Hs Sw T1 P1 (f, nI n, bg, (nI p), kd, fi, se, nu) T2 P2) (some (.int (b2i (0 < (tSg f n p).1)))) (cH C Hs Sw T1 P1 (f, nI n, bg, (nI (tSg f n p).2.2), kd, fi, se, (tSg f n p).2.1) T2 P2) := by
  by_cases h : xS f n p = 45
  · rw [show tSg f n p = _ from if_pos h]
    refine mCt_intro (plainFor_of_name rfl) (Nat.le_of_ble_eq_true rfl) (m_all rfl) (ls := [_, _, _]) rfl ?_
    refine mJ_aload_n dX1_readSigned_0 rfl ?_
    refine mJ_bipush (v := 45) dX1_readSigned_1 rfl ?_
    refine mJ_cV1i dX1_readSigned_3 e_X1_pass n_X1_52 ⟨Nat.le_of_ble_eq_true rfl, Nat.le_of_ble_eq_true rfl⟩ rfl rfl (Nat.le_of_ble_eq_true rfl) (C_X1_pass_t hn (p := p) (by omega) h) ?_
    refine mJ_top (b2i_t h) ?_
    refine mJ_istore_n dX1_readSigned_6 (Nat.le_of_ble_eq_true rfl) (ls2 := [_, _, _]) rfl ?_
    refine mJ_aload_n dX1_readSigned_7 rfl ?_
    refine mJ_iconst (v := 3) dX1_readSigned_8 rfl ?_
    refine mJ_cV1i dX1_readSigned_9 e_X1_readDigits n_X1_59 ⟨Nat.le_of_ble_eq_true rfl, Nat.le_of_ble_eq_true rfl⟩ rfl rfl (Nat.le_of_ble_eq_true rfl) (C_X1_readDigits hn (M := 3) (p := (p + 1)) (by omega) (by omega)) ?_
    refine mJ_istore_n dX1_readSigned_12 (Nat.le_of_ble_eq_true rfl) (ls2 := [_, _, _]) rfl ?_
    refine mJ_iload_n dX1_readSigned_13 rfl ?_
    refine mJ_if_eq 26 dX1_readSigned_14 rfl (fun c => absurd c (by decide)) (fun _ => ?_)
    refine mJ_aload_n dX1_readSigned_17 rfl ?_
    refine mJ_aload_n dX1_readSigned_18 rfl ?_
    refine mJ_get_22_7 dX1_readSigned_19 f_X1_62 ?_
    refine mJ_ineg dX1_readSigned_22 ?_
    refine mJ_put_22_7 dX1_readSigned_23 p_X1_62 ?_
    refine mJ_iload_n dX1_readSigned_26 rfl ?_
    exact mJ_zret dX1_readSigned_27 rfl (b2i_01 _) (rfl) (rfl)
  · rw [show tSg f n p = _ from if_neg h]
    refine mCt_intro (plainFor_of_name rfl) (Nat.le_of_ble_eq_true rfl) (m_all rfl) (ls := [_, _, _]) rfl ?_
    refine mJ_aload_n dX1_readSigned_0 rfl ?_
    refine mJ_bipush (v := 45) dX1_readSigned_1 rfl ?_
    refine mJ_cV1i dX1_readSigned_3 e_X1_pass n_X1_52 ⟨Nat.le_of_ble_eq_true rfl, Nat.le_of_ble_eq_true rfl⟩ rfl rfl (Nat.le_of_ble_eq_true rfl) (C_X1_pass_f hn (p := p) (by omega) h) ?_
    refine mJ_top (b2i_f h) ?_
    refine mJ_istore_n dX1_readSigned_6 (Nat.le_of_ble_eq_true rfl) (ls2 := [_, _, _]) rfl ?_
    refine mJ_aload_n dX1_readSigned_7 rfl ?_
    refine mJ_iconst (v := 3) dX1_readSigned_8 rfl ?_
    refine mJ_cV1i dX1_readSigned_9 e_X1_readDigits n_X1_59 ⟨Nat.le_of_ble_eq_true rfl, Nat.le_of_ble_eq_true rfl⟩ rfl rfl (Nat.le_of_ble_eq_true rfl) (C_X1_readDigits hn (M := 3) (p := p) (by omega) (by omega)) ?_
    refine mJ_istore_n dX1_readSigned_12 (Nat.le_of_ble_eq_true rfl) (ls2 := [_, _, _]) rfl ?_
    refine mJ_iload_n dX1_readSigned_13 rfl ?_
    refine mJ_if_eq 26 dX1_readSigned_14 rfl (fun _ => ?_) (fun c => absurd c (by decide))
    refine mJ_iload_n dX1_readSigned_26 rfl ?_
    exact mJ_zret dX1_readSigned_27 rfl (b2i_01 _) (rfl) (rfl)
set_option maxHeartbeats 4000000 in
set_option maxRecDepth 100000 in
theorem C_X1_readMove {C : aF} {Hs : tH} {Sw : tS} {T1 : tT} {P1 : tP} {T2 : tT} {P2 : tP} {f : aF} {n : Nat} {bg kd fi se nu : Int32} (hn : n ≤ 60) {p : Nat} (hp : p < 700) : ∃ Od' : tO, mCt k_X1_readMove [.ref 22] (cH C Hs Sw T1 P1 (f, nI n, bg, (nI p), kd, fi, se, nu) T2 P2) (some (.int (b2i (0 < (tSg f n p).1 ∧ xS f n (tSg f n p).2.2 = 44 ∧ 0 < (tSg f n ((tSg f n p).2.2 + 1)).1)))) (cH C Hs Sw T1 P1 (Od') T2 P2) ∧ Od'.1 = f ∧ Od'.2.1 = nI n ∧ Od'.2.2.1 = bg ∧ Od'.2.2.2.2.1 = kd ∧ (0 < (tSg f n p).1 ∧ xS f n (tSg f n p).2.2 = 44 ∧ 0 < (tSg f n ((tSg f n p).2.2 + 1)).1 → Od'.2.2.2.1 = nI (tSg f n ((tSg f n p).2.2 + 1)).2.2 ∧ Od'.2.2.2.2.2.1 = (tSg f n p).2.1 ∧ Od'.2.2.2.2.2.2.1 = (tSg f n ((tSg f n p).2.2 + 1)).2.1) := by
  by_cases h1 : 0 < (tSg f n p).1
  · by_cases h2 : xS f n (tSg f n p).2.2 = 44
    · by_cases h3 : 0 < (tSg f n ((tSg f n p).2.2 + 1)).1
      · refine ⟨(f, nI n, bg, nI (tSg f n ((tSg f n p).2.2 + 1)).2.2, kd, (tSg f n p).2.1, (tSg f n ((tSg f n p).2.2 + 1)).2.1, (tSg f n ((tSg f n p).2.2 + 1)).2.1), ?_, rfl, rfl, rfl, rfl, fun _ => ⟨rfl, rfl, rfl⟩⟩
        refine mCt_intro (plainFor_of_name rfl) (Nat.le_of_ble_eq_true rfl) (m_all rfl) (ls := [_]) rfl ?_
        refine mJ_aload_n dX1_readMove_0 rfl ?_
        refine mJ_cV0i dX1_readMove_1 e_X1_readSigned n_X1_65 ⟨Nat.le_of_ble_eq_true rfl, Nat.le_of_ble_eq_true rfl⟩ rfl rfl (Nat.le_of_ble_eq_true rfl) (C_X1_readSigned hn (p := p) (by omega)) ?_
        refine mJ_top (b2i_t h1) ?_
        refine mJ_if_ne 9 dX1_readMove_4 rfl (fun _ => ?_) (fun c => absurd c (by decide))
        refine mJ_aload_n dX1_readMove_9 rfl ?_
        refine mJ_aload_n dX1_readMove_10 rfl ?_
        refine mJ_get_22_7 dX1_readMove_11 f_X1_62 ?_
        refine mJ_put_22_5 dX1_readMove_14 p_X1_35 ?_
        refine mJ_aload_n dX1_readMove_17 rfl ?_
        refine mJ_bipush (v := 44) dX1_readMove_18 rfl ?_
        refine mJ_cV1i dX1_readMove_20 e_X1_pass n_X1_52 ⟨Nat.le_of_ble_eq_true rfl, Nat.le_of_ble_eq_true rfl⟩ rfl rfl (Nat.le_of_ble_eq_true rfl) (C_X1_pass_t hn (p := (tSg f n p).2.2) (by have := tSg_le f n p; omega) h2) ?_
        refine mJ_top (b2i_t h2) ?_
        refine mJ_if_eq 33 dX1_readMove_23 rfl (fun c => absurd c (by decide)) (fun _ => ?_)
        refine mJ_aload_n dX1_readMove_26 rfl ?_
        refine mJ_cV0i dX1_readMove_27 e_X1_readSigned n_X1_65 ⟨Nat.le_of_ble_eq_true rfl, Nat.le_of_ble_eq_true rfl⟩ rfl rfl (Nat.le_of_ble_eq_true rfl) (C_X1_readSigned hn (p := (tSg f n p).2.2 + 1) (by have := tSg_le f n p; omega)) ?_
        refine mJ_top (b2i_t h3) ?_
        refine mJ_if_ne 35 dX1_readMove_30 rfl (fun _ => ?_) (fun c => absurd c (by decide))
        refine mJ_aload_n dX1_readMove_35 rfl ?_
        refine mJ_aload_n dX1_readMove_36 rfl ?_
        refine mJ_get_22_7 dX1_readMove_37 f_X1_62 ?_
        refine mJ_put_22_6 dX1_readMove_40 p_X1_68 ?_
        refine mJ_iconst (v := 1) dX1_readMove_43 rfl ?_
        exact mJ_zret dX1_readMove_44 rfl (Or.inr rfl) (z_t ⟨h1, h2, h3⟩) (rfl)
      · refine ⟨(f, nI n, bg, nI (tSg f n ((tSg f n p).2.2 + 1)).2.2, kd, (tSg f n p).2.1, se, (tSg f n ((tSg f n p).2.2 + 1)).2.1), ?_, rfl, rfl, rfl, rfl, fun q => absurd q.2.2 h3⟩
        refine mCt_intro (plainFor_of_name rfl) (Nat.le_of_ble_eq_true rfl) (m_all rfl) (ls := [_]) rfl ?_
        refine mJ_aload_n dX1_readMove_0 rfl ?_
        refine mJ_cV0i dX1_readMove_1 e_X1_readSigned n_X1_65 ⟨Nat.le_of_ble_eq_true rfl, Nat.le_of_ble_eq_true rfl⟩ rfl rfl (Nat.le_of_ble_eq_true rfl) (C_X1_readSigned hn (p := p) (by omega)) ?_
        refine mJ_top (b2i_t h1) ?_
        refine mJ_if_ne 9 dX1_readMove_4 rfl (fun _ => ?_) (fun c => absurd c (by decide))
        refine mJ_aload_n dX1_readMove_9 rfl ?_
        refine mJ_aload_n dX1_readMove_10 rfl ?_
        refine mJ_get_22_7 dX1_readMove_11 f_X1_62 ?_
        refine mJ_put_22_5 dX1_readMove_14 p_X1_35 ?_
        refine mJ_aload_n dX1_readMove_17 rfl ?_
        refine mJ_bipush (v := 44) dX1_readMove_18 rfl ?_
        refine mJ_cV1i dX1_readMove_20 e_X1_pass n_X1_52 ⟨Nat.le_of_ble_eq_true rfl, Nat.le_of_ble_eq_true rfl⟩ rfl rfl (Nat.le_of_ble_eq_true rfl) (C_X1_pass_t hn (p := (tSg f n p).2.2) (by have := tSg_le f n p; omega) h2) ?_
        refine mJ_top (b2i_t h2) ?_
        refine mJ_if_eq 33 dX1_readMove_23 rfl (fun c => absurd c (by decide)) (fun _ => ?_)
        refine mJ_aload_n dX1_readMove_26 rfl ?_
        refine mJ_cV0i dX1_readMove_27 e_X1_readSigned n_X1_65 ⟨Nat.le_of_ble_eq_true rfl, Nat.le_of_ble_eq_true rfl⟩ rfl rfl (Nat.le_of_ble_eq_true rfl) (C_X1_readSigned hn (p := (tSg f n p).2.2 + 1) (by have := tSg_le f n p; omega)) ?_
        refine mJ_top (b2i_f h3) ?_
        refine mJ_if_ne 35 dX1_readMove_30 rfl (fun c => absurd c (by decide)) (fun _ => ?_)
        refine mJ_iconst (v := 0) dX1_readMove_33 rfl ?_
        exact mJ_zret dX1_readMove_34 rfl (Or.inl rfl) (z_f (fun q => h3 q.2.2)) (rfl)
    · refine ⟨(f, nI n, bg, nI (tSg f n p).2.2, kd, (tSg f n p).2.1, se, (tSg f n p).2.1), ?_, rfl, rfl, rfl, rfl, fun q => absurd q.2.1 h2⟩
      refine mCt_intro (plainFor_of_name rfl) (Nat.le_of_ble_eq_true rfl) (m_all rfl) (ls := [_]) rfl ?_
      refine mJ_aload_n dX1_readMove_0 rfl ?_
      refine mJ_cV0i dX1_readMove_1 e_X1_readSigned n_X1_65 ⟨Nat.le_of_ble_eq_true rfl, Nat.le_of_ble_eq_true rfl⟩ rfl rfl (Nat.le_of_ble_eq_true rfl) (C_X1_readSigned hn (p := p) (by omega)) ?_
      refine mJ_top (b2i_t h1) ?_
      refine mJ_if_ne 9 dX1_readMove_4 rfl (fun _ => ?_) (fun c => absurd c (by decide))
      refine mJ_aload_n dX1_readMove_9 rfl ?_
      refine mJ_aload_n dX1_readMove_10 rfl ?_
      refine mJ_get_22_7 dX1_readMove_11 f_X1_62 ?_
      refine mJ_put_22_5 dX1_readMove_14 p_X1_35 ?_
      refine mJ_aload_n dX1_readMove_17 rfl ?_
      refine mJ_bipush (v := 44) dX1_readMove_18 rfl ?_
      refine mJ_cV1i dX1_readMove_20 e_X1_pass n_X1_52 ⟨Nat.le_of_ble_eq_true rfl, Nat.le_of_ble_eq_true rfl⟩ rfl rfl (Nat.le_of_ble_eq_true rfl) (C_X1_pass_f hn (p := (tSg f n p).2.2) (by have := tSg_le f n p; omega) h2) ?_
      refine mJ_top (b2i_f h2) ?_
      refine mJ_if_eq 33 dX1_readMove_23 rfl (fun _ => ?_) (fun c => absurd c (by decide))
      refine mJ_iconst (v := 0) dX1_readMove_33 rfl ?_
      exact mJ_zret dX1_readMove_34 rfl (Or.inl rfl) (z_f (fun q => h2 q.2.1)) (rfl)
  · refine ⟨(f, nI n, bg, nI (tSg f n p).2.2, kd, fi, se, (tSg f n p).2.1), ?_, rfl, rfl, rfl, rfl, fun q => absurd q.1 h1⟩
    refine mCt_intro (plainFor_of_name rfl) (Nat.le_of_ble_eq_true rfl) (m_all rfl) (ls := [_]) rfl ?_
    refine mJ_aload_n dX1_readMove_0 rfl ?_
    refine mJ_cV0i dX1_readMove_1 e_X1_readSigned n_X1_65 ⟨Nat.le_of_ble_eq_true rfl, Nat.le_of_ble_eq_true rfl⟩ rfl rfl (Nat.le_of_ble_eq_true rfl) (C_X1_readSigned hn (p := p) (by omega)) ?_
    refine mJ_top (b2i_f h1) ?_
    refine mJ_if_ne 9 dX1_readMove_4 rfl (fun c => absurd c (by decide)) (fun _ => ?_)
    refine mJ_iconst (v := 0) dX1_readMove_7 rfl ?_
    exact mJ_zret dX1_readMove_8 rfl (Or.inl rfl) (z_f (fun q => h1 q.1)) (rfl)
set_option maxHeartbeats 4000000 in
set_option maxRecDepth 100000 in
theorem C_X1_read {C : aF} {Hs : tH} {Sw : tS} {T1 : tT} {P1 : tP} {T2 : tT} {P2 : tP} {f : aF} {n : Nat} {bg en kd fi se nu : Int32} (hn : n ≤ 60) {p : Nat} (hp : p < 600) : ∃ Od' : tO, mCt k_X1_read [.ref 22, .int (nI p)] (cH C Hs Sw T1 P1 (f, nI n, bg, en, kd, fi, se, nu) T2 P2) (some (.int (b2i (xO f n p ≠ none)))) (cH C Hs Sw T1 P1 (Od') T2 P2) ∧ Od'.1 = f ∧ Od'.2.1 = nI n ∧ Od'.2.2.1 = nI p ∧ (∀ k a b q, xO f n p = some (k, a, b, q) → Od'.2.2.2.1 = nI q ∧ Od'.2.2.2.2.1 = k ∧ (¬ k = 116 → Od'.2.2.2.2.2.1 = a) ∧ (k = 118 → Od'.2.2.2.2.2.2.1 = b)) := by
  by_cases k1 : xS f n p = 99
  · have hk := k1
    by_cases g1 : 0 < (tC f n 2 (p + 1))
    · by_cases g2 : xS f n (p + 1 + (tC f n 2 (p + 1))) = 59
      · have hx : xO f n p = some (xS f n p, (tV f n 2 (p + 1) 0), 0, (p + 1 + (tC f n 2 (p + 1))) + 1) := by
          rw [show xO f n p = _ from if_pos (Or.inl hk), if_pos ⟨g1, g2⟩]
        refine ⟨(f, nI n, nI p, nI ((p + 1 + (tC f n 2 (p + 1))) + 1), xS f n p, (tV f n 2 (p + 1) 0), se, (tV f n 2 (p + 1) 0)), ?_, rfl, rfl, rfl, (fun k a b q e => by rw [hx] at e; cases e; exact ⟨rfl, rfl, fun _ => rfl, fun z => absurd (hk.symm.trans z) (by decide)⟩)⟩
        refine mCt_intro (plainFor_of_name rfl) (Nat.le_of_ble_eq_true rfl) (m_all rfl) (ls := [_, _]) rfl ?_
        refine mJ_aload_n dX1_read_0 rfl ?_
        refine mJ_iload_n dX1_read_1 rfl ?_
        refine mJ_put_22_2 dX1_read_2 p_X1_41 ?_
        refine mJ_aload_n dX1_read_5 rfl ?_
        refine mJ_aload_n dX1_read_6 rfl ?_
        refine mJ_iload_n dX1_read_7 rfl ?_
        refine mJ_cV1i dX1_read_8 e_X1_signAt n_X1_44 ⟨Nat.le_of_ble_eq_true rfl, Nat.le_of_ble_eq_true rfl⟩ rfl rfl (Nat.le_of_ble_eq_true rfl) (C_X1_signAt hn (p := p) (by omega)) ?_
        refine mJ_put_22_4 dX1_read_11 p_X1_32 ?_
        refine mJ_aload_n dX1_read_14 rfl ?_
        refine mJ_iload_n dX1_read_15 rfl ?_
        refine mJ_iconst (v := 1) dX1_read_16 rfl ?_
        refine mJ_iadd dX1_read_17 ?_
        refine mJ_top (nI_1 p) ?_
        refine mJ_put_22_3 dX1_read_18 p_X1_38 ?_
        refine mJ_aload_n dX1_read_21 rfl ?_
        refine mJ_get_22_4 dX1_read_22 f_X1_32 ?_
        refine mJ_top hk ?_
        refine mJ_lsw (off := 43) 68 dX1_read_25 (by decide) (by decide) rfl ?_
        refine mJ_aload_n dX1_read_68 rfl ?_
        refine mJ_cV0i dX1_read_69 e_X1_readHint n_X1_48 ⟨Nat.le_of_ble_eq_true rfl, Nat.le_of_ble_eq_true rfl⟩ rfl rfl (Nat.le_of_ble_eq_true rfl) (C_X1_readHint hn (p := p + 1) (by omega)) ?_
        refine mJ_top (b2i_t g1) ?_
        refine mJ_if_eq 88 dX1_read_72 rfl (fun c => absurd c (by decide)) (fun _ => ?_)
        refine mJ_aload_n dX1_read_75 rfl ?_
        refine mJ_bipush (v := 59) dX1_read_76 rfl ?_
        refine mJ_cV1i dX1_read_78 e_X1_pass n_X1_52 ⟨Nat.le_of_ble_eq_true rfl, Nat.le_of_ble_eq_true rfl⟩ rfl rfl (Nat.le_of_ble_eq_true rfl) (C_X1_pass_t hn (p := (p + 1 + (tC f n 2 (p + 1)))) (by have := tC_le f n 2 (p + 1); omega) g2) ?_
        refine mJ_top (b2i_t g2) ?_
        refine mJ_if_eq 88 dX1_read_81 rfl (fun c => absurd c (by decide)) (fun _ => ?_)
        refine mJ_iconst (v := 1) dX1_read_84 rfl ?_
        refine mJ_goto 89 dX1_read_85 rfl ?_
        exact mJ_zret dX1_read_89 rfl (Or.inr rfl) (z_t (by rw [hx]; exact fun e => by cases e)) (rfl)
      · have hx : xO f n p = none := by
          rw [show xO f n p = _ from if_pos (Or.inl hk), if_neg (fun z => g2 z.2)]
        refine ⟨(f, nI n, nI p, nI (p + 1 + (tC f n 2 (p + 1))), xS f n p, (tV f n 2 (p + 1) 0), se, (tV f n 2 (p + 1) 0)), ?_, rfl, rfl, rfl, (fun k a b q e => by rw [hx] at e; cases e)⟩
        refine mCt_intro (plainFor_of_name rfl) (Nat.le_of_ble_eq_true rfl) (m_all rfl) (ls := [_, _]) rfl ?_
        refine mJ_aload_n dX1_read_0 rfl ?_
        refine mJ_iload_n dX1_read_1 rfl ?_
        refine mJ_put_22_2 dX1_read_2 p_X1_41 ?_
        refine mJ_aload_n dX1_read_5 rfl ?_
        refine mJ_aload_n dX1_read_6 rfl ?_
        refine mJ_iload_n dX1_read_7 rfl ?_
        refine mJ_cV1i dX1_read_8 e_X1_signAt n_X1_44 ⟨Nat.le_of_ble_eq_true rfl, Nat.le_of_ble_eq_true rfl⟩ rfl rfl (Nat.le_of_ble_eq_true rfl) (C_X1_signAt hn (p := p) (by omega)) ?_
        refine mJ_put_22_4 dX1_read_11 p_X1_32 ?_
        refine mJ_aload_n dX1_read_14 rfl ?_
        refine mJ_iload_n dX1_read_15 rfl ?_
        refine mJ_iconst (v := 1) dX1_read_16 rfl ?_
        refine mJ_iadd dX1_read_17 ?_
        refine mJ_top (nI_1 p) ?_
        refine mJ_put_22_3 dX1_read_18 p_X1_38 ?_
        refine mJ_aload_n dX1_read_21 rfl ?_
        refine mJ_get_22_4 dX1_read_22 f_X1_32 ?_
        refine mJ_top hk ?_
        refine mJ_lsw (off := 43) 68 dX1_read_25 (by decide) (by decide) rfl ?_
        refine mJ_aload_n dX1_read_68 rfl ?_
        refine mJ_cV0i dX1_read_69 e_X1_readHint n_X1_48 ⟨Nat.le_of_ble_eq_true rfl, Nat.le_of_ble_eq_true rfl⟩ rfl rfl (Nat.le_of_ble_eq_true rfl) (C_X1_readHint hn (p := p + 1) (by omega)) ?_
        refine mJ_top (b2i_t g1) ?_
        refine mJ_if_eq 88 dX1_read_72 rfl (fun c => absurd c (by decide)) (fun _ => ?_)
        refine mJ_aload_n dX1_read_75 rfl ?_
        refine mJ_bipush (v := 59) dX1_read_76 rfl ?_
        refine mJ_cV1i dX1_read_78 e_X1_pass n_X1_52 ⟨Nat.le_of_ble_eq_true rfl, Nat.le_of_ble_eq_true rfl⟩ rfl rfl (Nat.le_of_ble_eq_true rfl) (C_X1_pass_f hn (p := (p + 1 + (tC f n 2 (p + 1)))) (by have := tC_le f n 2 (p + 1); omega) g2) ?_
        refine mJ_top (b2i_f g2) ?_
        refine mJ_if_eq 88 dX1_read_81 rfl (fun _ => ?_) (fun c => absurd c (by decide))
        refine mJ_iconst (v := 0) dX1_read_88 rfl ?_
        exact mJ_zret dX1_read_89 rfl (Or.inl rfl) (z_f (fun e => e hx)) (rfl)
    · have hx : xO f n p = none := by
        rw [show xO f n p = _ from if_pos (Or.inl hk), if_neg (fun z => g1 z.1)]
      refine ⟨(f, nI n, nI p, nI (p + 1 + (tC f n 2 (p + 1))), xS f n p, (tV f n 2 (p + 1) 0), se, (tV f n 2 (p + 1) 0)), ?_, rfl, rfl, rfl, (fun k a b q e => by rw [hx] at e; cases e)⟩
      refine mCt_intro (plainFor_of_name rfl) (Nat.le_of_ble_eq_true rfl) (m_all rfl) (ls := [_, _]) rfl ?_
      refine mJ_aload_n dX1_read_0 rfl ?_
      refine mJ_iload_n dX1_read_1 rfl ?_
      refine mJ_put_22_2 dX1_read_2 p_X1_41 ?_
      refine mJ_aload_n dX1_read_5 rfl ?_
      refine mJ_aload_n dX1_read_6 rfl ?_
      refine mJ_iload_n dX1_read_7 rfl ?_
      refine mJ_cV1i dX1_read_8 e_X1_signAt n_X1_44 ⟨Nat.le_of_ble_eq_true rfl, Nat.le_of_ble_eq_true rfl⟩ rfl rfl (Nat.le_of_ble_eq_true rfl) (C_X1_signAt hn (p := p) (by omega)) ?_
      refine mJ_put_22_4 dX1_read_11 p_X1_32 ?_
      refine mJ_aload_n dX1_read_14 rfl ?_
      refine mJ_iload_n dX1_read_15 rfl ?_
      refine mJ_iconst (v := 1) dX1_read_16 rfl ?_
      refine mJ_iadd dX1_read_17 ?_
      refine mJ_top (nI_1 p) ?_
      refine mJ_put_22_3 dX1_read_18 p_X1_38 ?_
      refine mJ_aload_n dX1_read_21 rfl ?_
      refine mJ_get_22_4 dX1_read_22 f_X1_32 ?_
      refine mJ_top hk ?_
      refine mJ_lsw (off := 43) 68 dX1_read_25 (by decide) (by decide) rfl ?_
      refine mJ_aload_n dX1_read_68 rfl ?_
      refine mJ_cV0i dX1_read_69 e_X1_readHint n_X1_48 ⟨Nat.le_of_ble_eq_true rfl, Nat.le_of_ble_eq_true rfl⟩ rfl rfl (Nat.le_of_ble_eq_true rfl) (C_X1_readHint hn (p := p + 1) (by omega)) ?_
      refine mJ_top (b2i_f g1) ?_
      refine mJ_if_eq 88 dX1_read_72 rfl (fun _ => ?_) (fun c => absurd c (by decide))
      refine mJ_iconst (v := 0) dX1_read_88 rfl ?_
      exact mJ_zret dX1_read_89 rfl (Or.inl rfl) (z_f (fun e => e hx)) (rfl)
  · by_cases k2 : xS f n p = 111
    · have hk := k2
      by_cases g1 : 0 < (tC f n 2 (p + 1))
      · by_cases g2 : xS f n (p + 1 + (tC f n 2 (p + 1))) = 59
        · have hx : xO f n p = some (xS f n p, (tV f n 2 (p + 1) 0), 0, (p + 1 + (tC f n 2 (p + 1))) + 1) := by
            rw [show xO f n p = _ from if_pos (Or.inr hk), if_pos ⟨g1, g2⟩]
          refine ⟨(f, nI n, nI p, nI ((p + 1 + (tC f n 2 (p + 1))) + 1), xS f n p, (tV f n 2 (p + 1) 0), se, (tV f n 2 (p + 1) 0)), ?_, rfl, rfl, rfl, (fun k a b q e => by rw [hx] at e; cases e; exact ⟨rfl, rfl, fun _ => rfl, fun z => absurd (hk.symm.trans z) (by decide)⟩)⟩
          refine mCt_intro (plainFor_of_name rfl) (Nat.le_of_ble_eq_true rfl) (m_all rfl) (ls := [_, _]) rfl ?_
          refine mJ_aload_n dX1_read_0 rfl ?_
          refine mJ_iload_n dX1_read_1 rfl ?_
          refine mJ_put_22_2 dX1_read_2 p_X1_41 ?_
          refine mJ_aload_n dX1_read_5 rfl ?_
          refine mJ_aload_n dX1_read_6 rfl ?_
          refine mJ_iload_n dX1_read_7 rfl ?_
          refine mJ_cV1i dX1_read_8 e_X1_signAt n_X1_44 ⟨Nat.le_of_ble_eq_true rfl, Nat.le_of_ble_eq_true rfl⟩ rfl rfl (Nat.le_of_ble_eq_true rfl) (C_X1_signAt hn (p := p) (by omega)) ?_
          refine mJ_put_22_4 dX1_read_11 p_X1_32 ?_
          refine mJ_aload_n dX1_read_14 rfl ?_
          refine mJ_iload_n dX1_read_15 rfl ?_
          refine mJ_iconst (v := 1) dX1_read_16 rfl ?_
          refine mJ_iadd dX1_read_17 ?_
          refine mJ_top (nI_1 p) ?_
          refine mJ_put_22_3 dX1_read_18 p_X1_38 ?_
          refine mJ_aload_n dX1_read_21 rfl ?_
          refine mJ_get_22_4 dX1_read_22 f_X1_32 ?_
          refine mJ_top hk ?_
          refine mJ_lsw (off := 43) 68 dX1_read_25 (by decide) (by decide) rfl ?_
          refine mJ_aload_n dX1_read_68 rfl ?_
          refine mJ_cV0i dX1_read_69 e_X1_readHint n_X1_48 ⟨Nat.le_of_ble_eq_true rfl, Nat.le_of_ble_eq_true rfl⟩ rfl rfl (Nat.le_of_ble_eq_true rfl) (C_X1_readHint hn (p := p + 1) (by omega)) ?_
          refine mJ_top (b2i_t g1) ?_
          refine mJ_if_eq 88 dX1_read_72 rfl (fun c => absurd c (by decide)) (fun _ => ?_)
          refine mJ_aload_n dX1_read_75 rfl ?_
          refine mJ_bipush (v := 59) dX1_read_76 rfl ?_
          refine mJ_cV1i dX1_read_78 e_X1_pass n_X1_52 ⟨Nat.le_of_ble_eq_true rfl, Nat.le_of_ble_eq_true rfl⟩ rfl rfl (Nat.le_of_ble_eq_true rfl) (C_X1_pass_t hn (p := (p + 1 + (tC f n 2 (p + 1)))) (by have := tC_le f n 2 (p + 1); omega) g2) ?_
          refine mJ_top (b2i_t g2) ?_
          refine mJ_if_eq 88 dX1_read_81 rfl (fun c => absurd c (by decide)) (fun _ => ?_)
          refine mJ_iconst (v := 1) dX1_read_84 rfl ?_
          refine mJ_goto 89 dX1_read_85 rfl ?_
          exact mJ_zret dX1_read_89 rfl (Or.inr rfl) (z_t (by rw [hx]; exact fun e => by cases e)) (rfl)
        · have hx : xO f n p = none := by
            rw [show xO f n p = _ from if_pos (Or.inr hk), if_neg (fun z => g2 z.2)]
          refine ⟨(f, nI n, nI p, nI (p + 1 + (tC f n 2 (p + 1))), xS f n p, (tV f n 2 (p + 1) 0), se, (tV f n 2 (p + 1) 0)), ?_, rfl, rfl, rfl, (fun k a b q e => by rw [hx] at e; cases e)⟩
          refine mCt_intro (plainFor_of_name rfl) (Nat.le_of_ble_eq_true rfl) (m_all rfl) (ls := [_, _]) rfl ?_
          refine mJ_aload_n dX1_read_0 rfl ?_
          refine mJ_iload_n dX1_read_1 rfl ?_
          refine mJ_put_22_2 dX1_read_2 p_X1_41 ?_
          refine mJ_aload_n dX1_read_5 rfl ?_
          refine mJ_aload_n dX1_read_6 rfl ?_
          refine mJ_iload_n dX1_read_7 rfl ?_
          refine mJ_cV1i dX1_read_8 e_X1_signAt n_X1_44 ⟨Nat.le_of_ble_eq_true rfl, Nat.le_of_ble_eq_true rfl⟩ rfl rfl (Nat.le_of_ble_eq_true rfl) (C_X1_signAt hn (p := p) (by omega)) ?_
          refine mJ_put_22_4 dX1_read_11 p_X1_32 ?_
          refine mJ_aload_n dX1_read_14 rfl ?_
          refine mJ_iload_n dX1_read_15 rfl ?_
          refine mJ_iconst (v := 1) dX1_read_16 rfl ?_
          refine mJ_iadd dX1_read_17 ?_
          refine mJ_top (nI_1 p) ?_
          refine mJ_put_22_3 dX1_read_18 p_X1_38 ?_
          refine mJ_aload_n dX1_read_21 rfl ?_
          refine mJ_get_22_4 dX1_read_22 f_X1_32 ?_
          refine mJ_top hk ?_
          refine mJ_lsw (off := 43) 68 dX1_read_25 (by decide) (by decide) rfl ?_
          refine mJ_aload_n dX1_read_68 rfl ?_
          refine mJ_cV0i dX1_read_69 e_X1_readHint n_X1_48 ⟨Nat.le_of_ble_eq_true rfl, Nat.le_of_ble_eq_true rfl⟩ rfl rfl (Nat.le_of_ble_eq_true rfl) (C_X1_readHint hn (p := p + 1) (by omega)) ?_
          refine mJ_top (b2i_t g1) ?_
          refine mJ_if_eq 88 dX1_read_72 rfl (fun c => absurd c (by decide)) (fun _ => ?_)
          refine mJ_aload_n dX1_read_75 rfl ?_
          refine mJ_bipush (v := 59) dX1_read_76 rfl ?_
          refine mJ_cV1i dX1_read_78 e_X1_pass n_X1_52 ⟨Nat.le_of_ble_eq_true rfl, Nat.le_of_ble_eq_true rfl⟩ rfl rfl (Nat.le_of_ble_eq_true rfl) (C_X1_pass_f hn (p := (p + 1 + (tC f n 2 (p + 1)))) (by have := tC_le f n 2 (p + 1); omega) g2) ?_
          refine mJ_top (b2i_f g2) ?_
          refine mJ_if_eq 88 dX1_read_81 rfl (fun _ => ?_) (fun c => absurd c (by decide))
          refine mJ_iconst (v := 0) dX1_read_88 rfl ?_
          exact mJ_zret dX1_read_89 rfl (Or.inl rfl) (z_f (fun e => e hx)) (rfl)
      · have hx : xO f n p = none := by
          rw [show xO f n p = _ from if_pos (Or.inr hk), if_neg (fun z => g1 z.1)]
        refine ⟨(f, nI n, nI p, nI (p + 1 + (tC f n 2 (p + 1))), xS f n p, (tV f n 2 (p + 1) 0), se, (tV f n 2 (p + 1) 0)), ?_, rfl, rfl, rfl, (fun k a b q e => by rw [hx] at e; cases e)⟩
        refine mCt_intro (plainFor_of_name rfl) (Nat.le_of_ble_eq_true rfl) (m_all rfl) (ls := [_, _]) rfl ?_
        refine mJ_aload_n dX1_read_0 rfl ?_
        refine mJ_iload_n dX1_read_1 rfl ?_
        refine mJ_put_22_2 dX1_read_2 p_X1_41 ?_
        refine mJ_aload_n dX1_read_5 rfl ?_
        refine mJ_aload_n dX1_read_6 rfl ?_
        refine mJ_iload_n dX1_read_7 rfl ?_
        refine mJ_cV1i dX1_read_8 e_X1_signAt n_X1_44 ⟨Nat.le_of_ble_eq_true rfl, Nat.le_of_ble_eq_true rfl⟩ rfl rfl (Nat.le_of_ble_eq_true rfl) (C_X1_signAt hn (p := p) (by omega)) ?_
        refine mJ_put_22_4 dX1_read_11 p_X1_32 ?_
        refine mJ_aload_n dX1_read_14 rfl ?_
        refine mJ_iload_n dX1_read_15 rfl ?_
        refine mJ_iconst (v := 1) dX1_read_16 rfl ?_
        refine mJ_iadd dX1_read_17 ?_
        refine mJ_top (nI_1 p) ?_
        refine mJ_put_22_3 dX1_read_18 p_X1_38 ?_
        refine mJ_aload_n dX1_read_21 rfl ?_
        refine mJ_get_22_4 dX1_read_22 f_X1_32 ?_
        refine mJ_top hk ?_
        refine mJ_lsw (off := 43) 68 dX1_read_25 (by decide) (by decide) rfl ?_
        refine mJ_aload_n dX1_read_68 rfl ?_
        refine mJ_cV0i dX1_read_69 e_X1_readHint n_X1_48 ⟨Nat.le_of_ble_eq_true rfl, Nat.le_of_ble_eq_true rfl⟩ rfl rfl (Nat.le_of_ble_eq_true rfl) (C_X1_readHint hn (p := p + 1) (by omega)) ?_
        refine mJ_top (b2i_f g1) ?_
        refine mJ_if_eq 88 dX1_read_72 rfl (fun _ => ?_) (fun c => absurd c (by decide))
        refine mJ_iconst (v := 0) dX1_read_88 rfl ?_
        exact mJ_zret dX1_read_89 rfl (Or.inl rfl) (z_f (fun e => e hx)) (rfl)
    · by_cases k3 : xS f n p = 118
      · have hk := k3
        obtain ⟨Om, hm, o1, o2, o3, o4, o5⟩ := C_X1_readMove (C := C) (Hs := Hs) (Sw := Sw) (T1 := T1) (P1 := P1) (T2 := T2) (P2 := P2) (bg := nI p) (kd := xS f n p) (fi := fi) (se := se) (nu := nu) (f := f) hn (p := p + 1) (by omega)
        obtain ⟨x1, x2, x3, x4, x5, x6, x7, x8⟩ := Om
        have o1 : x1 = f := o1
        subst x1
        have o2 : x2 = nI n := o2
        subst x2
        have o3 : x3 = nI p := o3
        subst x3
        have o4 : x5 = xS f n p := o4
        subst x5
        by_cases g1 : 0 < (tSg f n (p + 1)).1 ∧ xS f n (tSg f n (p + 1)).2.2 = 44 ∧ 0 < (tSg f n ((tSg f n (p + 1)).2.2 + 1)).1
        · by_cases g2 : xS f n (tSg f n ((tSg f n (p + 1)).2.2 + 1)).2.2 = 59
          · have hx : xO f n p = some (118, (tSg f n (p + 1)).2.1, (tSg f n ((tSg f n (p + 1)).2.2 + 1)).2.1, (tSg f n ((tSg f n (p + 1)).2.2 + 1)).2.2 + 1) := by
              rw [show xO f n p = _ from if_neg (fun z => z.elim k1 k2), if_pos hk, if_pos ⟨g1.1, g1.2.1, g1.2.2, g2⟩]
            obtain ⟨o6, o7, o8⟩ := o5 g1
            have o6 : x4 = nI (tSg f n ((tSg f n (p + 1)).2.2 + 1)).2.2 := o6
            subst x4
            have o7 : x6 = (tSg f n (p + 1)).2.1 := o7
            subst x6
            have o8 : x7 = (tSg f n ((tSg f n (p + 1)).2.2 + 1)).2.1 := o8
            subst x7
            refine ⟨(f, nI n, nI p, nI ((tSg f n ((tSg f n (p + 1)).2.2 + 1)).2.2 + 1), xS f n p, (tSg f n (p + 1)).2.1, (tSg f n ((tSg f n (p + 1)).2.2 + 1)).2.1, x8), ?_, rfl, rfl, rfl, (fun k a b q e => by rw [hx] at e; cases e; exact ⟨rfl, hk, fun _ => rfl, fun _ => rfl⟩)⟩
            refine mCt_intro (plainFor_of_name rfl) (Nat.le_of_ble_eq_true rfl) (m_all rfl) (ls := [_, _]) rfl ?_
            refine mJ_aload_n dX1_read_0 rfl ?_
            refine mJ_iload_n dX1_read_1 rfl ?_
            refine mJ_put_22_2 dX1_read_2 p_X1_41 ?_
            refine mJ_aload_n dX1_read_5 rfl ?_
            refine mJ_aload_n dX1_read_6 rfl ?_
            refine mJ_iload_n dX1_read_7 rfl ?_
            refine mJ_cV1i dX1_read_8 e_X1_signAt n_X1_44 ⟨Nat.le_of_ble_eq_true rfl, Nat.le_of_ble_eq_true rfl⟩ rfl rfl (Nat.le_of_ble_eq_true rfl) (C_X1_signAt hn (p := p) (by omega)) ?_
            refine mJ_put_22_4 dX1_read_11 p_X1_32 ?_
            refine mJ_aload_n dX1_read_14 rfl ?_
            refine mJ_iload_n dX1_read_15 rfl ?_
            refine mJ_iconst (v := 1) dX1_read_16 rfl ?_
            refine mJ_iadd dX1_read_17 ?_
            refine mJ_top (nI_1 p) ?_
            refine mJ_put_22_3 dX1_read_18 p_X1_38 ?_
            refine mJ_aload_n dX1_read_21 rfl ?_
            refine mJ_get_22_4 dX1_read_22 f_X1_32 ?_
            refine mJ_top hk ?_
            refine mJ_lsw (off := 65) 90 dX1_read_25 (by decide) (by decide) rfl ?_
            refine mJ_aload_n dX1_read_90 rfl ?_
            refine mJ_cV0i dX1_read_91 e_X1_readMove n_X1_56 ⟨Nat.le_of_ble_eq_true rfl, Nat.le_of_ble_eq_true rfl⟩ rfl rfl (Nat.le_of_ble_eq_true rfl) (hm) ?_
            refine mJ_top (b2i_t g1) ?_
            refine mJ_if_eq 110 dX1_read_94 rfl (fun c => absurd c (by decide)) (fun _ => ?_)
            refine mJ_aload_n dX1_read_97 rfl ?_
            refine mJ_bipush (v := 59) dX1_read_98 rfl ?_
            refine mJ_cV1i dX1_read_100 e_X1_pass n_X1_52 ⟨Nat.le_of_ble_eq_true rfl, Nat.le_of_ble_eq_true rfl⟩ rfl rfl (Nat.le_of_ble_eq_true rfl) (C_X1_pass_t hn (p := (tSg f n ((tSg f n (p + 1)).2.2 + 1)).2.2) (by have := tSg_le f n (p + 1); have := tSg_le f n ((tSg f n (p + 1)).2.2 + 1); omega) g2) ?_
            refine mJ_top (b2i_t g2) ?_
            refine mJ_if_eq 110 dX1_read_103 rfl (fun c => absurd c (by decide)) (fun _ => ?_)
            refine mJ_iconst (v := 1) dX1_read_106 rfl ?_
            refine mJ_goto 111 dX1_read_107 rfl ?_
            exact mJ_zret dX1_read_111 rfl (Or.inr rfl) (z_t (by rw [hx]; exact fun e => by cases e)) (rfl)
          · have hx : xO f n p = none := by
              rw [show xO f n p = _ from if_neg (fun z => z.elim k1 k2), if_pos hk, if_neg (fun z => g2 z.2.2.2)]
            obtain ⟨o6, o7, o8⟩ := o5 g1
            have o6 : x4 = nI (tSg f n ((tSg f n (p + 1)).2.2 + 1)).2.2 := o6
            subst x4
            have o7 : x6 = (tSg f n (p + 1)).2.1 := o7
            subst x6
            have o8 : x7 = (tSg f n ((tSg f n (p + 1)).2.2 + 1)).2.1 := o8
            subst x7
            refine ⟨(f, nI n, nI p, nI (tSg f n ((tSg f n (p + 1)).2.2 + 1)).2.2, xS f n p, (tSg f n (p + 1)).2.1, (tSg f n ((tSg f n (p + 1)).2.2 + 1)).2.1, x8), ?_, rfl, rfl, rfl, (fun k a b q e => by rw [hx] at e; cases e)⟩
            refine mCt_intro (plainFor_of_name rfl) (Nat.le_of_ble_eq_true rfl) (m_all rfl) (ls := [_, _]) rfl ?_
            refine mJ_aload_n dX1_read_0 rfl ?_
            refine mJ_iload_n dX1_read_1 rfl ?_
            refine mJ_put_22_2 dX1_read_2 p_X1_41 ?_
            refine mJ_aload_n dX1_read_5 rfl ?_
            refine mJ_aload_n dX1_read_6 rfl ?_
            refine mJ_iload_n dX1_read_7 rfl ?_
            refine mJ_cV1i dX1_read_8 e_X1_signAt n_X1_44 ⟨Nat.le_of_ble_eq_true rfl, Nat.le_of_ble_eq_true rfl⟩ rfl rfl (Nat.le_of_ble_eq_true rfl) (C_X1_signAt hn (p := p) (by omega)) ?_
            refine mJ_put_22_4 dX1_read_11 p_X1_32 ?_
            refine mJ_aload_n dX1_read_14 rfl ?_
            refine mJ_iload_n dX1_read_15 rfl ?_
            refine mJ_iconst (v := 1) dX1_read_16 rfl ?_
            refine mJ_iadd dX1_read_17 ?_
            refine mJ_top (nI_1 p) ?_
            refine mJ_put_22_3 dX1_read_18 p_X1_38 ?_
            refine mJ_aload_n dX1_read_21 rfl ?_
            refine mJ_get_22_4 dX1_read_22 f_X1_32 ?_
            refine mJ_top hk ?_
            refine mJ_lsw (off := 65) 90 dX1_read_25 (by decide) (by decide) rfl ?_
            refine mJ_aload_n dX1_read_90 rfl ?_
            refine mJ_cV0i dX1_read_91 e_X1_readMove n_X1_56 ⟨Nat.le_of_ble_eq_true rfl, Nat.le_of_ble_eq_true rfl⟩ rfl rfl (Nat.le_of_ble_eq_true rfl) (hm) ?_
            refine mJ_top (b2i_t g1) ?_
            refine mJ_if_eq 110 dX1_read_94 rfl (fun c => absurd c (by decide)) (fun _ => ?_)
            refine mJ_aload_n dX1_read_97 rfl ?_
            refine mJ_bipush (v := 59) dX1_read_98 rfl ?_
            refine mJ_cV1i dX1_read_100 e_X1_pass n_X1_52 ⟨Nat.le_of_ble_eq_true rfl, Nat.le_of_ble_eq_true rfl⟩ rfl rfl (Nat.le_of_ble_eq_true rfl) (C_X1_pass_f hn (p := (tSg f n ((tSg f n (p + 1)).2.2 + 1)).2.2) (by have := tSg_le f n (p + 1); have := tSg_le f n ((tSg f n (p + 1)).2.2 + 1); omega) g2) ?_
            refine mJ_top (b2i_f g2) ?_
            refine mJ_if_eq 110 dX1_read_103 rfl (fun _ => ?_) (fun c => absurd c (by decide))
            refine mJ_iconst (v := 0) dX1_read_110 rfl ?_
            exact mJ_zret dX1_read_111 rfl (Or.inl rfl) (z_f (fun e => e hx)) (rfl)
        · have hx : xO f n p = none := by
            rw [show xO f n p = _ from if_neg (fun z => z.elim k1 k2), if_pos hk, if_neg (fun z => g1 ⟨z.1, z.2.1, z.2.2.1⟩)]
          refine ⟨(f, nI n, nI p, x4, xS f n p, x6, x7, x8), ?_, rfl, rfl, rfl, (fun k a b q e => by rw [hx] at e; cases e)⟩
          refine mCt_intro (plainFor_of_name rfl) (Nat.le_of_ble_eq_true rfl) (m_all rfl) (ls := [_, _]) rfl ?_
          refine mJ_aload_n dX1_read_0 rfl ?_
          refine mJ_iload_n dX1_read_1 rfl ?_
          refine mJ_put_22_2 dX1_read_2 p_X1_41 ?_
          refine mJ_aload_n dX1_read_5 rfl ?_
          refine mJ_aload_n dX1_read_6 rfl ?_
          refine mJ_iload_n dX1_read_7 rfl ?_
          refine mJ_cV1i dX1_read_8 e_X1_signAt n_X1_44 ⟨Nat.le_of_ble_eq_true rfl, Nat.le_of_ble_eq_true rfl⟩ rfl rfl (Nat.le_of_ble_eq_true rfl) (C_X1_signAt hn (p := p) (by omega)) ?_
          refine mJ_put_22_4 dX1_read_11 p_X1_32 ?_
          refine mJ_aload_n dX1_read_14 rfl ?_
          refine mJ_iload_n dX1_read_15 rfl ?_
          refine mJ_iconst (v := 1) dX1_read_16 rfl ?_
          refine mJ_iadd dX1_read_17 ?_
          refine mJ_top (nI_1 p) ?_
          refine mJ_put_22_3 dX1_read_18 p_X1_38 ?_
          refine mJ_aload_n dX1_read_21 rfl ?_
          refine mJ_get_22_4 dX1_read_22 f_X1_32 ?_
          refine mJ_top hk ?_
          refine mJ_lsw (off := 65) 90 dX1_read_25 (by decide) (by decide) rfl ?_
          refine mJ_aload_n dX1_read_90 rfl ?_
          refine mJ_cV0i dX1_read_91 e_X1_readMove n_X1_56 ⟨Nat.le_of_ble_eq_true rfl, Nat.le_of_ble_eq_true rfl⟩ rfl rfl (Nat.le_of_ble_eq_true rfl) (hm) ?_
          refine mJ_top (b2i_f g1) ?_
          refine mJ_if_eq 110 dX1_read_94 rfl (fun _ => ?_) (fun c => absurd c (by decide))
          refine mJ_iconst (v := 0) dX1_read_110 rfl ?_
          exact mJ_zret dX1_read_111 rfl (Or.inl rfl) (z_f (fun e => e hx)) (rfl)
      · by_cases k4 : xS f n p = 116
        · have hk := k4
          by_cases g2 : xS f n (p + 1) = 59
          · have hx : xO f n p = some (116, 0, 0, p + 1 + 1) := by
              rw [show xO f n p = _ from if_neg (fun z => z.elim k1 k2), if_neg k3, if_pos hk, if_pos g2]
            refine ⟨(f, nI n, nI p, nI (p + 1 + 1), xS f n p, fi, se, nu), ?_, rfl, rfl, rfl, (fun k a b q e => by rw [hx] at e; cases e; exact ⟨rfl, hk, fun z => absurd rfl z, fun z => absurd z (by decide)⟩)⟩
            refine mCt_intro (plainFor_of_name rfl) (Nat.le_of_ble_eq_true rfl) (m_all rfl) (ls := [_, _]) rfl ?_
            refine mJ_aload_n dX1_read_0 rfl ?_
            refine mJ_iload_n dX1_read_1 rfl ?_
            refine mJ_put_22_2 dX1_read_2 p_X1_41 ?_
            refine mJ_aload_n dX1_read_5 rfl ?_
            refine mJ_aload_n dX1_read_6 rfl ?_
            refine mJ_iload_n dX1_read_7 rfl ?_
            refine mJ_cV1i dX1_read_8 e_X1_signAt n_X1_44 ⟨Nat.le_of_ble_eq_true rfl, Nat.le_of_ble_eq_true rfl⟩ rfl rfl (Nat.le_of_ble_eq_true rfl) (C_X1_signAt hn (p := p) (by omega)) ?_
            refine mJ_put_22_4 dX1_read_11 p_X1_32 ?_
            refine mJ_aload_n dX1_read_14 rfl ?_
            refine mJ_iload_n dX1_read_15 rfl ?_
            refine mJ_iconst (v := 1) dX1_read_16 rfl ?_
            refine mJ_iadd dX1_read_17 ?_
            refine mJ_top (nI_1 p) ?_
            refine mJ_put_22_3 dX1_read_18 p_X1_38 ?_
            refine mJ_aload_n dX1_read_21 rfl ?_
            refine mJ_get_22_4 dX1_read_22 f_X1_32 ?_
            refine mJ_top hk ?_
            refine mJ_lsw (off := 87) 112 dX1_read_25 (by decide) (by decide) rfl ?_
            refine mJ_aload_n dX1_read_112 rfl ?_
            refine mJ_bipush (v := 59) dX1_read_113 rfl ?_
            refine mJ_cV1i dX1_read_115 e_X1_pass n_X1_52 ⟨Nat.le_of_ble_eq_true rfl, Nat.le_of_ble_eq_true rfl⟩ rfl rfl (Nat.le_of_ble_eq_true rfl) (C_X1_pass_t hn (p := p + 1) (by omega) g2) ?_
            refine mJ_top (b2i_t g2) ?_
            exact mJ_zret dX1_read_118 rfl (Or.inr rfl) (z_t (by rw [hx]; exact fun e => by cases e)) (rfl)
          · have hx : xO f n p = none := by
              rw [show xO f n p = _ from if_neg (fun z => z.elim k1 k2), if_neg k3, if_pos hk, if_neg g2]
            refine ⟨(f, nI n, nI p, nI (p + 1), xS f n p, fi, se, nu), ?_, rfl, rfl, rfl, (fun k a b q e => by rw [hx] at e; cases e)⟩
            refine mCt_intro (plainFor_of_name rfl) (Nat.le_of_ble_eq_true rfl) (m_all rfl) (ls := [_, _]) rfl ?_
            refine mJ_aload_n dX1_read_0 rfl ?_
            refine mJ_iload_n dX1_read_1 rfl ?_
            refine mJ_put_22_2 dX1_read_2 p_X1_41 ?_
            refine mJ_aload_n dX1_read_5 rfl ?_
            refine mJ_aload_n dX1_read_6 rfl ?_
            refine mJ_iload_n dX1_read_7 rfl ?_
            refine mJ_cV1i dX1_read_8 e_X1_signAt n_X1_44 ⟨Nat.le_of_ble_eq_true rfl, Nat.le_of_ble_eq_true rfl⟩ rfl rfl (Nat.le_of_ble_eq_true rfl) (C_X1_signAt hn (p := p) (by omega)) ?_
            refine mJ_put_22_4 dX1_read_11 p_X1_32 ?_
            refine mJ_aload_n dX1_read_14 rfl ?_
            refine mJ_iload_n dX1_read_15 rfl ?_
            refine mJ_iconst (v := 1) dX1_read_16 rfl ?_
            refine mJ_iadd dX1_read_17 ?_
            refine mJ_top (nI_1 p) ?_
            refine mJ_put_22_3 dX1_read_18 p_X1_38 ?_
            refine mJ_aload_n dX1_read_21 rfl ?_
            refine mJ_get_22_4 dX1_read_22 f_X1_32 ?_
            refine mJ_top hk ?_
            refine mJ_lsw (off := 87) 112 dX1_read_25 (by decide) (by decide) rfl ?_
            refine mJ_aload_n dX1_read_112 rfl ?_
            refine mJ_bipush (v := 59) dX1_read_113 rfl ?_
            refine mJ_cV1i dX1_read_115 e_X1_pass n_X1_52 ⟨Nat.le_of_ble_eq_true rfl, Nat.le_of_ble_eq_true rfl⟩ rfl rfl (Nat.le_of_ble_eq_true rfl) (C_X1_pass_f hn (p := p + 1) (by omega) g2) ?_
            refine mJ_top (b2i_f g2) ?_
            exact mJ_zret dX1_read_118 rfl (Or.inl rfl) (z_f (fun e => e hx)) (rfl)
        · have hx : xO f n p = none := by
            rw [show xO f n p = _ from if_neg (fun z => z.elim k1 k2), if_neg k3, if_neg k4]
          refine ⟨(f, nI n, nI p, nI (p + 1), xS f n p, fi, se, nu), ?_, rfl, rfl, rfl, (fun k a b q e => by rw [hx] at e; cases e)⟩
          refine mCt_intro (plainFor_of_name rfl) (Nat.le_of_ble_eq_true rfl) (m_all rfl) (ls := [_, _]) rfl ?_
          refine mJ_aload_n dX1_read_0 rfl ?_
          refine mJ_iload_n dX1_read_1 rfl ?_
          refine mJ_put_22_2 dX1_read_2 p_X1_41 ?_
          refine mJ_aload_n dX1_read_5 rfl ?_
          refine mJ_aload_n dX1_read_6 rfl ?_
          refine mJ_iload_n dX1_read_7 rfl ?_
          refine mJ_cV1i dX1_read_8 e_X1_signAt n_X1_44 ⟨Nat.le_of_ble_eq_true rfl, Nat.le_of_ble_eq_true rfl⟩ rfl rfl (Nat.le_of_ble_eq_true rfl) (C_X1_signAt hn (p := p) (by omega)) ?_
          refine mJ_put_22_4 dX1_read_11 p_X1_32 ?_
          refine mJ_aload_n dX1_read_14 rfl ?_
          refine mJ_iload_n dX1_read_15 rfl ?_
          refine mJ_iconst (v := 1) dX1_read_16 rfl ?_
          refine mJ_iadd dX1_read_17 ?_
          refine mJ_top (nI_1 p) ?_
          refine mJ_put_22_3 dX1_read_18 p_X1_38 ?_
          refine mJ_aload_n dX1_read_21 rfl ?_
          refine mJ_get_22_4 dX1_read_22 f_X1_32 ?_
          refine mJ_lsw (off := 94) 119 dX1_read_25 (by decide) (by show Op.lookupswitch.offset [(99, 43), (111, 43), (116, 87), (118, 65)] 94 _ = 94; rw [lv_osw (a := 99) k1 rfl, lv_osw (a := 111) k2 rfl, lv_osw (a := 116) k4 rfl, lv_osw (a := 118) k3 rfl]; rfl) rfl ?_
          refine mJ_iconst (v := 0) dX1_read_119 rfl ?_
          exact mJ_zret dX1_read_120 rfl (Or.inl rfl) (z_f (fun e => e hx)) (rfl)
set_option maxHeartbeats 4000000 in
set_option maxRecDepth 100000 in
theorem C_X1_append {C : aF} {Hs : tH} {Sw : tS} {T1 : tT} {P1 : tP} {T2 : tT} {P2 : tP} {f : aF} {n : Nat} {bg en kd fi se nu : Int32} {v : Int32} : mCt k_X1_append [.ref 22, .int v] (cH C Hs Sw T1 P1 (f, nI n, bg, en, kd, fi, se, nu) T2 P2) none (cH C Hs Sw T1 P1 (rp 60 f (nI n) v, nI (n + 1), bg, en, kd, fi, se, nu) T2 P2) := by
  refine mCt_intro (plainFor_of_name rfl) (Nat.le_of_ble_eq_true rfl) (m_all rfl) (ls := [_, _]) rfl ?_
  refine mJ_aload_n dX1_append_0 rfl ?_
  refine mJ_get dX1_append_1 f_X1_14 rfl rfl ?_
  refine mJ_aload_n dX1_append_4 rfl ?_
  refine mJ_get_22_1 dX1_append_5 f_X1_20 ?_
  refine mJ_iload_n dX1_append_8 rfl ?_
  refine mJ_cV2v dX1_append_9 e_X3_put n_X1_24 ⟨Nat.le_of_ble_eq_true rfl, Nat.le_of_ble_eq_true rfl⟩ rfl rfl (Nat.le_of_ble_eq_true rfl) (C_put_24) ?_
  refine mJ_aload_n dX1_append_12 rfl ?_
  refine mJ_dup dX1_append_13 rfl ?_
  refine mJ_get_22_1 dX1_append_14 f_X1_20 ?_
  refine mJ_iconst (v := 1) dX1_append_17 rfl ?_
  refine mJ_iadd dX1_append_18 ?_
  refine mJ_top (nI_1 n) ?_
  refine mJ_put_22_1 dX1_append_19 p_X1_20 ?_
  exact mJ_vret dX1_append_22 rfl (rfl) (rfl)
