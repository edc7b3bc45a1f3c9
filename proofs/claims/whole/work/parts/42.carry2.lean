/-! PAIRS OF CALLS: carry, the loops in step -/
theorem INV_mk3 {C W f d was text RS SD XS YS OR : aF} {o n t nA nH nO B B1 B2 : Nat} {shn bg en kd fi se nu : Int32} {T1 : tT} {P1 : tP} {T2 : tT} {P2 : tP} {at_ sig fst snd rea lef top shf arr goo : Int32} {ord why son : aF} {shm : Int32} {tri : aF} {trs : Int32} (h1 : rX C d nA nH nO B1) (hB1 : B1 ≤ B2) (hB : B ≤ B2) (h2 : sR d nH RS SD XS YS (p_all d nA nH nO).1 (p_all d nA nH nO).2.1) (h3 : shn = (p_all d nA nH nO).2.2) (h4 : hX W was o n B) (h5 : o < 5) (h6 : n ≤ 5) (h7 : t ≤ 60) (h8 : ∀ i, i < t → f i = text i) : INV (cH C (W, nI o, nI n) (RS, SD, XS, YS, OR, shn) T1 P1 (f, nI t, bg, en, kd, fi, se, nu) T2 P2) (mH d was (nI n) text (nI t) at_ sig fst snd rea lef top shf arr goo ord why son shm tri trs) B2 :=
  ⟨C, W, f, d, was, text, RS, SD, XS, YS, OR, o, n, t, nA, nH, nO, shn, bg, en, kd, fi, se, nu, T1, P1, T2, P2, at_, sig, fst, snd, rea, lef, top, shf, arr, goo, ord, why, son, shm, tri, trs, rfl, rfl, rX_mono h1 hB1, h2, h3, hX_mono h4 hB, h5, h6, h7, h8⟩
set_option maxHeartbeats 4000000 in
set_option maxRecDepth 100000 in
theorem L_carry {W was f text : aF} {o n t nA nH B : Nat} {T2 : tT} {P2 : tP} (hB : B < 2 ^ 28 + 1) (hx : hX W was o n B) (ho : o < 5) (hn : n ≤ 5) (ht : t ≤ 60) (hf : ∀ i, i < t → f i = text i) : ∀ (m i p : Nat) (C d RS SD XS YS OR : aF) (nO : Nat) (shn bg en kd fi se nu : Int32) (T1 : tT) (P1 : tP) (sig fst snd rea lef top shf arr goo : Int32) (ord why son : aF) (shm : Int32) (tri : aF) (trs : Int32), 2 * i ≤ p → p ≤ 60 → t ≤ p + m → xF f t nH m p = none → rX C d nA nH nO (B + i) → sR d nH RS SD XS YS (p_all d nA nH nO).1 (p_all d nA nH nO).2.1 → shn = (p_all d nA nH nO).2.2 → ∃ (r : Int32) (H1' H2' : List mC), INV H1' H2' (B + 30) ∧ mJ k_X7_carry 37 [.ref 0, .int (nI i), .int (nI p)] [] (cH C (W, nI o, nI n) (RS, SD, XS, YS, OR, shn) T1 P1 (f, nI t, bg, en, kd, fi, se, nu) T2 P2) (some (.int r)) H1' ∧ mJ k_X8_carry 27 [.ref 0, .int (nI i), .int 1] [] (mH d was (nI n) text (nI t) (nI p) sig fst snd rea lef top shf arr goo ord why son shm tri trs) (some (.int r)) H2' := by
  intro m
  induction m with
  | zero =>
    intro i p C d RS SD XS YS OR nO shn bg en kd fi se nu T1 P1 sig fst snd rea lef top shf arr goo ord why son shm tri trs hi hp hm hF rx sr hshn
    have g0 : t ≤ p := by omega
    refine ⟨nI i, (cH C (W, nI o, nI n) (RS, SD, XS, YS, OR, shn) T1 P1 (f, nI t, bg, en, kd, fi, se, nu) T2 P2), (mH d was (nI n) text (nI t) (nI p) sig fst snd rea lef top shf arr goo ord why son shm tri trs), INV_mk3 rx (by omega) (by omega) sr hshn hx ho hn ht hf, ?_, ?_⟩
    · refine mJ_iload_n dX7_carry_37 rfl ?_
      refine mJ_bipush (v := 60) dX7_carry_38 rfl ?_
      refine mJ_icmp_ge 101 dX7_carry_40 rfl (fun c_40 => False.elim (by exact nI_ge (b := 60) (show i < 60 by omega) (by decide) c_40)) (fun c_40 => ?_)
      refine mJ_iload_n dX7_carry_43 rfl ?_
      refine mJ_aload_n dX7_carry_44 rfl ?_
      refine mJ_get dX7_carry_45 f_X7_33 rfl rfl ?_
      refine mJ_get_22_1 dX7_carry_48 f_X7_125 ?_
      refine mJ_icmp_ge 101 dX7_carry_51 rfl (fun c_51 => ?_) (fun c_51 => False.elim (by exact c_51 (nI_le g0 (by omega))))
      refine mJ_iload_n dX7_carry_101 rfl ?_
      exact mJ_iret dX7_carry_102 rfl (rfl) (rfl)
    · refine mJ_iload_n dX8_carry_27 rfl ?_
      refine mJ_if_eq 67 dX8_carry_28 rfl (fun c => absurd c (by decide)) (fun _ => ?_)
      refine mJ_aload_n dX8_carry_31 rfl ?_
      refine mJ_get dX8_carry_32 f_X8_159 rfl rfl ?_
      refine mJ_aload_n dX8_carry_35 rfl ?_
      refine mJ_get dX8_carry_36 f_X8_131 rfl rfl ?_
      refine mJ_icmp_ge 67 dX8_carry_39 rfl (fun c_39 => ?_) (fun c_39 => False.elim (by exact c_39 (nI_le g0 (by omega))))
      refine mJ_iload_n dX8_carry_67 rfl ?_
      exact mJ_iret dX8_carry_68 rfl (rfl) (rfl)
  | succ m ih =>
    intro i p C d RS SD XS YS OR nO shn bg en kd fi se nu T1 P1 sig fst snd rea lef top shf arr goo ord why son shm tri trs hi hp hm hF rx sr hshn
    by_cases g0 : t ≤ p
    · refine ⟨nI i, (cH C (W, nI o, nI n) (RS, SD, XS, YS, OR, shn) T1 P1 (f, nI t, bg, en, kd, fi, se, nu) T2 P2), (mH d was (nI n) text (nI t) (nI p) sig fst snd rea lef top shf arr goo ord why son shm tri trs), INV_mk3 rx (by omega) (by omega) sr hshn hx ho hn ht hf, ?_, ?_⟩
      · refine mJ_iload_n dX7_carry_37 rfl ?_
        refine mJ_bipush (v := 60) dX7_carry_38 rfl ?_
        refine mJ_icmp_ge 101 dX7_carry_40 rfl (fun c_40 => False.elim (by exact nI_ge (b := 60) (show i < 60 by omega) (by decide) c_40)) (fun c_40 => ?_)
        refine mJ_iload_n dX7_carry_43 rfl ?_
        refine mJ_aload_n dX7_carry_44 rfl ?_
        refine mJ_get dX7_carry_45 f_X7_33 rfl rfl ?_
        refine mJ_get_22_1 dX7_carry_48 f_X7_125 ?_
        refine mJ_icmp_ge 101 dX7_carry_51 rfl (fun c_51 => ?_) (fun c_51 => False.elim (by exact c_51 (nI_le g0 (by omega))))
        refine mJ_iload_n dX7_carry_101 rfl ?_
        exact mJ_iret dX7_carry_102 rfl (rfl) (rfl)
      · refine mJ_iload_n dX8_carry_27 rfl ?_
        refine mJ_if_eq 67 dX8_carry_28 rfl (fun c => absurd c (by decide)) (fun _ => ?_)
        refine mJ_aload_n dX8_carry_31 rfl ?_
        refine mJ_get dX8_carry_32 f_X8_159 rfl rfl ?_
        refine mJ_aload_n dX8_carry_35 rfl ?_
        refine mJ_get dX8_carry_36 f_X8_131 rfl rfl ?_
        refine mJ_icmp_ge 67 dX8_carry_39 rfl (fun c_39 => ?_) (fun c_39 => False.elim (by exact c_39 (nI_le g0 (by omega))))
        refine mJ_iload_n dX8_carry_67 rfl ?_
        exact mJ_iret dX8_carry_68 rfl (rfl) (rfl)
    · have hR : xR f t nH p = 0 := Classical.byContradiction fun z => by rw [xF_b g0 rfl z] at hF; cases hF
      obtain ⟨y, hxo⟩ : ∃ y, xO f t p = some y := by
        cases hq : xO f t p with
        | none => rw [xR_n hq] at hR; exact absurd hR (by decide)
        | some y => exact ⟨y, rfl⟩
      obtain ⟨k, a, b, q⟩ := y
      have valid : ¬ ((k = 111 ∨ k = 99) ∧ nI nH ≤ a) := fun z => by rw [xR_2 hxo z] at hR; exact absurd hR (by decide)
      obtain ⟨x1, x2, x3⟩ := xO_ok hxo
      have x4 := xO_2 hxo
      have hF2 : xF f t nH m q = none := by rw [← hF, xF_g g0 hR, xQ_s hxo]
      have hxm : xO text t p = some (k, a, b, q) := by rw [← xO_congr hf]; exact hxo
      have hRm : xR text t nH p = 0 := xR_0 hxm valid
      have bc := rC_bC (by omega) (rX_rC rx)
      have e50 : d 50 = nI nH := bc.wd.2.2.2.2.1
      have l2 := bc.wd.2.1
      obtain ⟨⟨o1, o2, o3, o4, o5, o6, o7, o8⟩, hr, q1, q2, q3, q4⟩ := C_X1_read (C := C) (Hs := (W, nI o, nI n)) (Sw := (RS, SD, XS, YS, OR, shn)) (T1 := T1) (P1 := P1) (T2 := T2) (P2 := P2) (f := f) (bg := bg) (en := en) (kd := kd) (fi := fi) (se := se) (nu := nu) ht (p := p) (by omega)
      have q1 : o1 = f := q1
      have q2 : o2 = nI t := q2
      have q4 : ∀ k a b q, xO f t p = some (k, a, b, q) → o4 = nI q ∧ o5 = k ∧ (¬ k = 116 → o6 = a) ∧ (k = 118 → o7 = b) := q4
      rw [q1, q2] at hr
      obtain ⟨r1, r2, r3, r4⟩ := q4 k a b q hxo
      rw [r1] at hr
      obtain ⟨u1, u2, u3, u4, hs, hp4⟩ := C_X8_readsOrder (was := was) (sta := nI n) (text := text) (sig := sig) (fst := fst) (snd := snd) (rea := rea) (lef := lef) (top := top) (shf := shf) (arr := arr) (goo := goo) (ord := ord) (why := why) (son := son) (shn := shm) (tri := tri) (trs := trs) ht e50 l2 (p := p) (by omega)
      obtain ⟨s1, s2, s3, s4⟩ := hp4 k a b q hxm
      rw [s1] at hs
      have hne : ¬ xO f t p = none := by rw [hxo]; exact fun z => by cases z
      have OP := one_pair (W := W) (was := was) (f := f) (text := text) (o := o) (n := n) (OR := OR) (shn := shn) (bg := o3) (en := nI q) (nu := o8) (at_ := nI q) (rea := xR text t nH p) (lef := lef) (top := top) (shf := shf) (arr := arr) (goo := goo) (ord := ord) (why := why) (son := son) (shm := shm) (tri := tri) (trs := trs) (T1 := T1) (P1 := P1) (T2 := T2) (P2 := P2) rx (by omega) sr hxo valid r2 r3 r4 s2 s3 s4
      rcases OP with ⟨c1, c2⟩ | ⟨C2, d2, nO2, f1, f2, f3, f4, f5, f6, f7, f8, f9, f10, f11, rx2, c1, c2⟩
      · refine ⟨nI i, cH C (W, nI o, nI n) (RS, SD, XS, YS, OR, shn) T1 P1 (f, nI t, o3, nI q, o5, o6, o7, o8) T2 P2, mH d was (nI n) text (nI t) (nI q) u2 u3 u4 (xR text t nH p) lef top shf arr goo ord why son shm tri trs, INV_mk3 rx (by omega) (by omega) sr hshn hx ho hn ht hf, ?_, ?_⟩
        · refine mJ_iload_n dX7_carry_37 rfl ?_
          refine mJ_bipush (v := 60) dX7_carry_38 rfl ?_
          refine mJ_icmp_ge 101 dX7_carry_40 rfl (fun c_40 => False.elim (by exact nI_ge (b := 60) (show i < 60 by omega) (by decide) c_40)) (fun c_40 => ?_)
          refine mJ_iload_n dX7_carry_43 rfl ?_
          refine mJ_aload_n dX7_carry_44 rfl ?_
          refine mJ_get dX7_carry_45 f_X7_33 rfl rfl ?_
          refine mJ_get_22_1 dX7_carry_48 f_X7_125 ?_
          refine mJ_icmp_ge 101 dX7_carry_51 rfl (fun c_51 => False.elim (by exact g0 ((nI_leI (by omega) (by omega)).mp c_51))) (fun c_51 => ?_)
          refine mJ_aload_n dX7_carry_54 rfl ?_
          refine mJ_get dX7_carry_55 f_X7_33 rfl rfl ?_
          refine mJ_iload_n dX7_carry_58 rfl ?_
          refine mJ_cV1i dX7_carry_59 e_X1_read n_X7_229 ⟨Nat.le_of_ble_eq_true rfl, Nat.le_of_ble_eq_true rfl⟩ rfl rfl (Nat.le_of_ble_eq_true rfl) (hr) ?_
          refine mJ_top (b2i_t hne) ?_
          refine mJ_if_eq 101 dX7_carry_62 rfl (fun c => absurd c (by decide)) (fun _ => ?_)
          refine mJ_aload_n dX7_carry_65 rfl ?_
          refine mJ_cV0i dX7_carry_66 e_X7_carryOrder n_X7_232 ⟨Nat.le_of_ble_eq_true rfl, Nat.le_of_ble_eq_true rfl⟩ rfl rfl (Nat.le_of_ble_eq_true rfl) (c1) ?_
          refine mJ_top (show (0 : Int32) = 0 from rfl) ?_
          refine mJ_if_ne 75 dX7_carry_69 rfl (fun c => absurd c (by decide)) (fun _ => ?_)
          refine mJ_goto 101 dX7_carry_72 rfl ?_
          refine mJ_iload_n dX7_carry_101 rfl ?_
          exact mJ_iret dX7_carry_102 rfl (rfl) (rfl)
        · refine mJ_iload_n dX8_carry_27 rfl ?_
          refine mJ_if_eq 67 dX8_carry_28 rfl (fun c => absurd c (by decide)) (fun _ => ?_)
          refine mJ_aload_n dX8_carry_31 rfl ?_
          refine mJ_get dX8_carry_32 f_X8_159 rfl rfl ?_
          refine mJ_aload_n dX8_carry_35 rfl ?_
          refine mJ_get dX8_carry_36 f_X8_131 rfl rfl ?_
          refine mJ_icmp_ge 67 dX8_carry_39 rfl (fun c_39 => False.elim (by exact g0 ((nI_leI (by omega) (by omega)).mp c_39))) (fun c_39 => ?_)
          refine mJ_aload_n dX8_carry_42 rfl ?_
          refine mJ_cV0i dX8_carry_43 e_X8_readsOrder n_X8_188 ⟨Nat.le_of_ble_eq_true rfl, Nat.le_of_ble_eq_true rfl⟩ rfl rfl (Nat.le_of_ble_eq_true rfl) (hs) ?_
          refine mJ_pop dX8_carry_46 rfl ?_
          refine mJ_aload_n dX8_carry_47 rfl ?_
          refine mJ_cV0i dX8_carry_48 e_X8_carries n_X8_194 ⟨Nat.le_of_ble_eq_true rfl, Nat.le_of_ble_eq_true rfl⟩ rfl rfl (Nat.le_of_ble_eq_true rfl) (c2) ?_
          refine mJ_top (show (0 : Int32) = 0 from rfl) ?_
          refine mJ_istore_n dX8_carry_51 (Nat.le_of_ble_eq_true rfl) (ls2 := [_, _, _]) rfl ?_
          refine mJ_iload_n dX8_carry_52 rfl ?_
          refine mJ_iload_n dX8_carry_53 rfl ?_
          refine mJ_if_eq 61 dX8_carry_54 rfl (fun _ => ?_) (fun c => absurd c (by decide))
          refine mJ_iconst (v := 0) dX8_carry_61 rfl ?_
          refine mJ_iadd dX8_carry_62 ?_
          refine mJ_top (Int32.add_zero _) ?_
          refine mJ_istore_n dX8_carry_63 (Nat.le_of_ble_eq_true rfl) (ls2 := [_, _, _]) rfl ?_
          refine mJ_goto 27 dX8_carry_64 rfl ?_
          refine mJ_iload_n dX8_carry_27 rfl ?_
          refine mJ_if_eq 67 dX8_carry_28 rfl (fun _ => ?_) (fun c => absurd c (by decide))
          refine mJ_iload_n dX8_carry_67 rfl ?_
          exact mJ_iret dX8_carry_68 rfl (rfl) (rfl)
      · have bc2 := rC_bC (by omega) (rX_rC rx2)
        obtain ⟨R1, R2, R3, R4, R5, R6, R7, hz, hj⟩ := C_X4_arrange (Hs := (W, nI o, nI n)) (Od := (f, nI t, o3, nI q, o5, o6, o7, o8)) (T2 := T2) (P2 := P2) (RS := RS) (SD := SD) (XS := XS) (YS := YS) (OR := OR) (shn := shn) (T1 := T1) (P1 := P1) bc2
        obtain ⟨r, H1', H2', hI, hcls, hmod⟩ := ih (i + 1) q C2 d2 R1 R2 R3 R4 R5 nO2 _ o3 (nI q) o5 o6 o7 o8 R6 R7 u2 u3 u4 (xR text t nH p) f1 f2 f3 f4 f5 f6 f7 f8 f10 f9 f11 (by omega) (by omega) (by omega) hF2 rx2 hz rfl
        refine ⟨r, H1', H2', hI, ?_, ?_⟩
        · refine mJ_iload_n dX7_carry_37 rfl ?_
          refine mJ_bipush (v := 60) dX7_carry_38 rfl ?_
          refine mJ_icmp_ge 101 dX7_carry_40 rfl (fun c_40 => False.elim (by exact nI_ge (b := 60) (show i < 60 by omega) (by decide) c_40)) (fun c_40 => ?_)
          refine mJ_iload_n dX7_carry_43 rfl ?_
          refine mJ_aload_n dX7_carry_44 rfl ?_
          refine mJ_get dX7_carry_45 f_X7_33 rfl rfl ?_
          refine mJ_get_22_1 dX7_carry_48 f_X7_125 ?_
          refine mJ_icmp_ge 101 dX7_carry_51 rfl (fun c_51 => False.elim (by exact g0 ((nI_leI (by omega) (by omega)).mp c_51))) (fun c_51 => ?_)
          refine mJ_aload_n dX7_carry_54 rfl ?_
          refine mJ_get dX7_carry_55 f_X7_33 rfl rfl ?_
          refine mJ_iload_n dX7_carry_58 rfl ?_
          refine mJ_cV1i dX7_carry_59 e_X1_read n_X7_229 ⟨Nat.le_of_ble_eq_true rfl, Nat.le_of_ble_eq_true rfl⟩ rfl rfl (Nat.le_of_ble_eq_true rfl) (hr) ?_
          refine mJ_top (b2i_t hne) ?_
          refine mJ_if_eq 101 dX7_carry_62 rfl (fun c => absurd c (by decide)) (fun _ => ?_)
          refine mJ_aload_n dX7_carry_65 rfl ?_
          refine mJ_cV0i dX7_carry_66 e_X7_carryOrder n_X7_232 ⟨Nat.le_of_ble_eq_true rfl, Nat.le_of_ble_eq_true rfl⟩ rfl rfl (Nat.le_of_ble_eq_true rfl) (c1) ?_
          refine mJ_top (show (1 : Int32) = 1 from rfl) ?_
          refine mJ_if_ne 75 dX7_carry_69 rfl (fun _ => ?_) (fun c => absurd c (by decide))
          refine mJ_aload_n dX7_carry_75 rfl ?_
          refine mJ_get dX7_carry_76 f_X7_26 rfl rfl ?_
          refine mJ_aload_n dX7_carry_79 rfl ?_
          refine mJ_get dX7_carry_80 f_X7_12 rfl rfl ?_
          refine mJ_cV1i dX7_carry_83 e_X4_arrange n_X7_63 ⟨Nat.le_of_ble_eq_true rfl, Nat.le_of_ble_eq_true rfl⟩ rfl rfl (Nat.le_of_ble_eq_true rfl) (hj) ?_
          refine mJ_pop dX7_carry_86 rfl ?_
          refine mJ_aload_n dX7_carry_87 rfl ?_
          refine mJ_get dX7_carry_88 f_X7_33 rfl rfl ?_
          refine mJ_get_22_3 dX7_carry_91 f_X7_236 ?_
          refine mJ_istore_n dX7_carry_94 (Nat.le_of_ble_eq_true rfl) (ls2 := [_, _, _]) rfl ?_
          refine mJ_iinc dX7_carry_95 rfl (Nat.le_of_ble_eq_true rfl) (v := nI (i + 1)) (nI_1 i) (ls2 := [_, _, _]) rfl ?_
          refine mJ_goto 37 dX7_carry_98 rfl ?_
          exact hcls
        · refine mJ_iload_n dX8_carry_27 rfl ?_
          refine mJ_if_eq 67 dX8_carry_28 rfl (fun c => absurd c (by decide)) (fun _ => ?_)
          refine mJ_aload_n dX8_carry_31 rfl ?_
          refine mJ_get dX8_carry_32 f_X8_159 rfl rfl ?_
          refine mJ_aload_n dX8_carry_35 rfl ?_
          refine mJ_get dX8_carry_36 f_X8_131 rfl rfl ?_
          refine mJ_icmp_ge 67 dX8_carry_39 rfl (fun c_39 => False.elim (by exact g0 ((nI_leI (by omega) (by omega)).mp c_39))) (fun c_39 => ?_)
          refine mJ_aload_n dX8_carry_42 rfl ?_
          refine mJ_cV0i dX8_carry_43 e_X8_readsOrder n_X8_188 ⟨Nat.le_of_ble_eq_true rfl, Nat.le_of_ble_eq_true rfl⟩ rfl rfl (Nat.le_of_ble_eq_true rfl) (hs) ?_
          refine mJ_pop dX8_carry_46 rfl ?_
          refine mJ_aload_n dX8_carry_47 rfl ?_
          refine mJ_cV0i dX8_carry_48 e_X8_carries n_X8_194 ⟨Nat.le_of_ble_eq_true rfl, Nat.le_of_ble_eq_true rfl⟩ rfl rfl (Nat.le_of_ble_eq_true rfl) (c2) ?_
          refine mJ_top (show (1 : Int32) = 1 from rfl) ?_
          refine mJ_istore_n dX8_carry_51 (Nat.le_of_ble_eq_true rfl) (ls2 := [_, _, _]) rfl ?_
          refine mJ_iload_n dX8_carry_52 rfl ?_
          refine mJ_iload_n dX8_carry_53 rfl ?_
          refine mJ_if_eq 61 dX8_carry_54 rfl (fun c => absurd c (by decide)) (fun _ => ?_)
          refine mJ_iconst (v := 1) dX8_carry_57 rfl ?_
          refine mJ_goto 62 dX8_carry_58 rfl ?_
          refine mJ_iadd dX8_carry_62 ?_
          refine mJ_top (nI_1 i) ?_
          refine mJ_istore_n dX8_carry_63 (Nat.le_of_ble_eq_true rfl) (ls2 := [_, _, _]) rfl ?_
          refine mJ_goto 27 dX8_carry_64 rfl ?_
          exact hmod
set_option maxHeartbeats 4000000 in
set_option maxRecDepth 100000 in
theorem P_carry  : PAIR k_X7_carry k_X8_carry [] := by
  intro H1 H2 B hB hI
  obtain ⟨C, W, f, d, was, text, RS, SD, XS, YS, OR, o, n, t, nA, nH, nO, shn, bg, en, kd, fi, se, nu, T1, P1, T2, P2, at_, sig, fst, snd, rea, lef, top, shf, arr, goo, ord, why, son, shm, tri, trs, rfl, rfl, rx, sr, hshn, hx, ho, hn, ht, hf⟩ := hI
  obtain ⟨hw, hpx, hro⟩ := id rx
  obtain ⟨l1, l2, l3, hw0⟩ := id hw
  have bc := rC_bC (by omega) (rX_rC rx)
  have e9 : d 9 = nI nA := bc.wd.2.2.2.1
  have e50 : d 50 = nI nH := bc.wd.2.2.2.2.1
  have ex := xF_congr (nH := nH) hf 60 0
  obtain ⟨⟨o1, o2, o3, o4, o5, o6, o7, o8⟩, c1, q1, q2, q3⟩ := C_X1_findFault (C := C) (Hs := (W, nI o, nI n)) (Sw := (RS, SD, XS, YS, OR, shn)) (T1 := T1) (P1 := P1) (T2 := T2) (P2 := P2) (f := f) (n := t) (nH := nH) (bg := bg) (en := en) (kd := kd) (fi := fi) (se := se) (nu := nu) ht
  have q1 : o1 = f := q1
  have q2 : o2 = nI t := q2
  rw [q1, q2] at c1
  rw [← bc.h5] at c1
  obtain ⟨j1, j2, j3, j4, j5, c2, hz5⟩ := C_X8_faulty (was := was) (sta := nI n) (text := text) (at_ := at_) (sig := sig) (fst := fst) (snd := snd) (rea := rea) (lef := lef) (top := top) (shf := shf) (arr := arr) (goo := goo) (ord := ord) (why := why) (son := son) (shn := shm) (tri := tri) (trs := trs) (d := d) (n := t) ht e50 l2
  by_cases gF : xF f t nH 60 0 = none
  · obtain ⟨W', o', hk, ho', hn', hx'⟩ := hX_keep hx rx ho hn
    obtain ⟨r, H1', H2', hI, hcls, hmod⟩ := L_carry (T2 := T2) (P2 := P2) (by omega) hx' ho' hn' ht hf 60 0 0 C d RS SD XS YS OR nO shn o3 o4 o5 o6 o7 o8 T1 P1 j2 j3 j4 j5 lef top shf arr goo ord why son shm tri trs (by omega) (by omega) (by omega) gF rx sr hshn
    refine ⟨r, H1', H2', hI, ?_, ?_⟩
    · refine mCt_intro (plainFor_of_name rfl) (Nat.le_of_ble_eq_true rfl) (m_all rfl) (ls := [_, _, _]) rfl ?_
      refine mJ_aload_n dX7_carry_0 rfl ?_
      refine mJ_get dX7_carry_1 f_X7_33 rfl rfl ?_
      refine mJ_aload_n dX7_carry_4 rfl ?_
      refine mJ_get dX7_carry_5 f_X7_12 rfl rfl ?_
      refine mJ_iconst (v := 5) dX7_carry_8 rfl ?_
      refine mJ_cV1i dX7_carry_9 e_X5_get n_X7_80 ⟨Nat.le_of_ble_eq_true rfl, Nat.le_of_ble_eq_true rfl⟩ rfl rfl (Nat.le_of_ble_eq_true rfl) (C_X5_get) ?_
      refine mJ_cV1i dX7_carry_12 e_X1_findFault n_X7_223 ⟨Nat.le_of_ble_eq_true rfl, Nat.le_of_ble_eq_true rfl⟩ rfl rfl (Nat.le_of_ble_eq_true rfl) (c1) ?_
      refine mJ_if_eq 22 dX7_carry_15 rfl (fun c_15 => ?_) (fun c_15 => False.elim (by exact c_15 (fR_0.mpr gF)))
      refine mJ_aload_n dX7_carry_22 rfl ?_
      refine mJ_get dX7_carry_23 f_X7_19 rfl rfl ?_
      refine mJ_aload_n dX7_carry_26 rfl ?_
      refine mJ_get dX7_carry_27 f_X7_12 rfl rfl ?_
      refine mJ_cV1v dX7_carry_30 e_X0_keep n_X7_55 ⟨Nat.le_of_ble_eq_true rfl, Nat.le_of_ble_eq_true rfl⟩ rfl rfl (Nat.le_of_ble_eq_true rfl) (C_X0_keep ho hn) ?_
      refine mJ_iconst (v := 0) dX7_carry_33 rfl ?_
      refine mJ_istore_n dX7_carry_34 (Nat.le_of_ble_eq_true rfl) (ls2 := [_, _, _]) rfl ?_
      refine mJ_iconst (v := 0) dX7_carry_35 rfl ?_
      refine mJ_istore_n dX7_carry_36 (Nat.le_of_ble_eq_true rfl) (ls2 := [_, _, _]) rfl ?_
      rw [hk]; exact hcls
    · refine mCt_intro (plainFor_of_name rfl) (Nat.le_of_ble_eq_true rfl) (m_all rfl) (ls := [_, _, _]) rfl ?_
      refine mJ_aload_n dX8_carry_0 rfl ?_
      refine mJ_cV0i dX8_carry_1 e_X8_faulty n_X8_191 ⟨Nat.le_of_ble_eq_true rfl, Nat.le_of_ble_eq_true rfl⟩ rfl rfl (Nat.le_of_ble_eq_true rfl) (c2) ?_
      refine mJ_sipush (v := (-10004)) dX8_carry_4 rfl ?_
      refine mJ_icmp_eq 14 dX8_carry_7 rfl (fun c_7 => ?_) (fun c_7 => False.elim (by rw [← ex] at c_7; exact c_7 ((fP_n ht 60 0).mpr gF)))
      refine mJ_aload_n dX8_carry_14 rfl ?_
      refine mJ_cV0v dX8_carry_15 e_X8_records n_X8_115 ⟨Nat.le_of_ble_eq_true rfl, Nat.le_of_ble_eq_true rfl⟩ rfl rfl (Nat.le_of_ble_eq_true rfl) (C_X8_records hn) ?_
      refine mJ_iconst (v := 0) dX8_carry_18 rfl ?_
      refine mJ_istore_n dX8_carry_19 (Nat.le_of_ble_eq_true rfl) (ls2 := [_, _, _]) rfl ?_
      refine mJ_iconst (v := 1) dX8_carry_20 rfl ?_
      refine mJ_istore_n dX8_carry_21 (Nat.le_of_ble_eq_true rfl) (ls2 := [_, _, _]) rfl ?_
      refine mJ_aload_n dX8_carry_22 rfl ?_
      refine mJ_iconst (v := 0) dX8_carry_23 rfl ?_
      refine mJ_put dX8_carry_24 p_X8_159 rfl (Nat.le_of_ble_eq_true rfl) rfl rfl (h2 := mH _ _ _ _ _ _ _ _ _ _ _ _ _ _ _ _ _ _ _ _ _) rfl ?_
      exact hmod
  · refine ⟨-10002, cH C (W, nI o, nI n) (RS, SD, XS, YS, OR, shn) T1 P1 (f, nI t, o3, o4, o5, o6, o7, o8) T2 P2, mH d was (nI n) text (nI t) j1 j2 j3 j4 j5 lef top shf arr goo ord why son shm tri trs, INV_mk rx sr hshn hx ho hn ht hf, ?_, ?_⟩
    · refine mCt_intro (plainFor_of_name rfl) (Nat.le_of_ble_eq_true rfl) (m_all rfl) (ls := [_, _, _]) rfl ?_
      refine mJ_aload_n dX7_carry_0 rfl ?_
      refine mJ_get dX7_carry_1 f_X7_33 rfl rfl ?_
      refine mJ_aload_n dX7_carry_4 rfl ?_
      refine mJ_get dX7_carry_5 f_X7_12 rfl rfl ?_
      refine mJ_iconst (v := 5) dX7_carry_8 rfl ?_
      refine mJ_cV1i dX7_carry_9 e_X5_get n_X7_80 ⟨Nat.le_of_ble_eq_true rfl, Nat.le_of_ble_eq_true rfl⟩ rfl rfl (Nat.le_of_ble_eq_true rfl) (C_X5_get) ?_
      refine mJ_cV1i dX7_carry_12 e_X1_findFault n_X7_223 ⟨Nat.le_of_ble_eq_true rfl, Nat.le_of_ble_eq_true rfl⟩ rfl rfl (Nat.le_of_ble_eq_true rfl) (c1) ?_
      refine mJ_if_eq 22 dX7_carry_15 rfl (fun c_15 => False.elim (by exact gF (fR_0.mp c_15))) (fun c_15 => ?_)
      refine mJ_sipush (v := (-10002)) dX7_carry_18 rfl ?_
      exact mJ_iret dX7_carry_21 rfl (rfl) (rfl)
    · refine mCt_intro (plainFor_of_name rfl) (Nat.le_of_ble_eq_true rfl) (m_all rfl) (ls := [_, _, _]) rfl ?_
      refine mJ_aload_n dX8_carry_0 rfl ?_
      refine mJ_cV0i dX8_carry_1 e_X8_faulty n_X8_191 ⟨Nat.le_of_ble_eq_true rfl, Nat.le_of_ble_eq_true rfl⟩ rfl rfl (Nat.le_of_ble_eq_true rfl) (c2) ?_
      refine mJ_sipush (v := (-10004)) dX8_carry_4 rfl ?_
      refine mJ_icmp_eq 14 dX8_carry_7 rfl (fun c_7 => False.elim (by rw [← ex] at c_7; exact gF ((fP_n ht 60 0).mp c_7))) (fun c_7 => ?_)
      refine mJ_sipush (v := (-10002)) dX8_carry_10 rfl ?_
      exact mJ_iret dX8_carry_13 rfl (rfl) (rfl)
