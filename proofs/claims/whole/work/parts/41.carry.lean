/-! PAIRS OF CALLS: carry -/
theorem one_pair {C d W was f text RS SD XS YS OR ord why son tri : aF} {o n t nA nH nO B p q : Nat} {shn bg en kd fi se nu at_ sig fst snd rea lef top shf arr goo shm trs k a b : Int32} {T1 : tT} {P1 : tP} {T2 : tT} {P2 : tP} (rx : rX C d nA nH nO B) (hB : B < 2 ^ 29 - 1) (sr : sR d nH RS SD XS YS (p_all d nA nH nO).1 (p_all d nA nH nO).2.1) (hx : xO f t p = some (k, a, b, q)) (valid : ¬ ((k = 111 ∨ k = 99) ∧ nI nH ≤ a)) (c5 : kd = k) (c6 : ¬ k = 116 → fi = a) (c7 : k = 118 → se = b) (m1 : sig = k) (m2 : ¬ k = 116 ∧ ¬ k = 118 → snd = a) (m3 : k = 118 → fst = a ∧ snd = b) : (mCt k_X7_carryOrder [.ref 0] (cH C (W, nI o, nI n) (RS, SD, XS, YS, OR, shn) T1 P1 (f, nI t, bg, en, kd, fi, se, nu) T2 P2) (some (.int 0)) (cH C (W, nI o, nI n) (RS, SD, XS, YS, OR, shn) T1 P1 (f, nI t, bg, en, kd, fi, se, nu) T2 P2) ∧ mCt k_X8_carries [.ref 0] (mH d was (nI n) text (nI t) at_ sig fst snd rea lef top shf arr goo ord why son shm tri trs) (some (.int 0)) (mH d was (nI n) text (nI t) at_ sig fst snd rea lef top shf arr goo ord why son shm tri trs)) ∨ ∃ (C' d' : aF) (nO' : Nat), ∃ (lef' top' shf' arr' goo' : Int32) (ord' why' son' tri' : aF) (shm' trs' : Int32), rX C' d' nA nH nO' (B + 1) ∧ mCt k_X7_carryOrder [.ref 0] (cH C (W, nI o, nI n) (RS, SD, XS, YS, OR, shn) T1 P1 (f, nI t, bg, en, kd, fi, se, nu) T2 P2) (some (.int 1)) (cH C' (W, nI o, nI n) (RS, SD, XS, YS, OR, shn) T1 P1 (f, nI t, bg, en, kd, fi, se, nu) T2 P2) ∧ mCt k_X8_carries [.ref 0] (mH d was (nI n) text (nI t) at_ sig fst snd rea lef top shf arr goo ord why son shm tri trs) (some (.int 1)) (mH d' was (nI n) text (nI t) at_ sig fst snd rea lef' top' shf' arr' goo' ord' why' son' shm' tri' trs') := by
  have bc := rC_bC (by omega) (rX_rC rx)
  obtain ⟨hw, hpx, hro⟩ := id rx
  obtain ⟨l1, l2, l3, hw0⟩ := id hw
  have e9 : d 9 = nI nA := bc.wd.2.2.2.1
  have e50 : d 50 = nI nH := bc.wd.2.2.2.2.1
  have e147 : d 147 = nI nO := bc.wd.2.2.2.2.2.1
  obtain ⟨x1, x2, x3⟩ := xO_ok hx
  subst c5
  subst m1
  rcases x3 with ⟨hk2, m, hm, ha⟩ | hk2 | hk2
  · by_cases h111 : sig = 111
    · have n116 : ¬ sig = 116 := fun z => by rw [z] at hk2; exact absurd hk2 (by decide)
      have n118 : ¬ sig = 118 := fun z => by rw [z] at hk2; exact absurd hk2 (by decide)
      have hfi : fi = nI m := (c6 n116).trans ha
      have hsn : snd = nI m := (m2 ⟨n116, n118⟩).trans ha
      subst hfi
      subst hsn
      have hmH : m < nH := Nat.lt_of_not_le fun z => valid ⟨Or.inl h111, by rw [ha]; exact nI_le z (by omega)⟩
      have lm : m < 12 := by omega
      have gq : q_hint C (nI m) := by unfold q_hint; rw [G_5 hpx, e50]; exact ⟨nI_pos (by omega), nI_ge hmH (by omega)⟩
      have oi := open_iff bc.wd (by omega) hro hmH
      by_cases g2 : q_open C (nI m)
      · obtain ⟨p', hp, hp2, hp3⟩ := pO_in bc.wd hro hmH (oi.mp g2)
        exact Or.inl ⟨C_X7_carryOrder_on h111 gq g2, C_X8_carries_on h111 rfl e147 l3 (by rw [hp3]; exact nI_neg1 (by omega))⟩
      · have gm : ¬ m ∈ ordL d nO := fun z => g2 (oi.mpr z)
        have hlt := nO_lt (by omega) rx hmH g2
        have e7 : sH (sP C 6 (gG C 6 + 1)) (nI m) 8 (gG C 6 + 1) = upd (upd C 6 (C 6 + 1)) (52 + 10 * m + 8) (C 6 + 1) := by rw [show gG C 6 = C 6 from gG_k C (k := 6) (by omega), sP_6, sH_8 lm]
        have c1 := C_X7_carryOrder_o (C := C) (Hs := (W, nI o, nI n)) (RS := RS) (SD := SD) (XS := XS) (YS := YS) (OR := OR) (shn := shn) (T1 := T1) (P1 := P1) (f := f) (t := t) (bg := bg) (en := en) (fi := nI m) (se := se) (nu := nu) (T2 := T2) (P2 := P2) h111 gq g2
        rw [e7] at c1
        exact Or.inr ⟨_, _, _, lef, top, shf, arr, goo, ord, why, son, tri, shm, trs, rX_open (by omega) rx hmH g2, c1, C_X8_carries_o h111 rfl e147 l3 (by omega) (pO_out bc.wd hro hmH gm)⟩
    · have h99 : sig = 99 := hk2.resolve_right h111
      have n116 : ¬ sig = 116 := fun z => by rw [z] at hk2; exact absurd hk2 (by decide)
      have n118 : ¬ sig = 118 := fun z => by rw [z] at hk2; exact absurd hk2 (by decide)
      have hfi : fi = nI m := (c6 n116).trans ha
      have hsn : snd = nI m := (m2 ⟨n116, n118⟩).trans ha
      subst hfi
      subst hsn
      have hmH : m < nH := Nat.lt_of_not_le fun z => valid ⟨Or.inr h99, by rw [ha]; exact nI_le z (by omega)⟩
      have lm : m < 12 := by omega
      have gq : q_hint C (nI m) := by unfold q_hint; rw [G_5 hpx, e50]; exact ⟨nI_pos (by omega), nI_ge hmH (by omega)⟩
      have oi := open_iff bc.wd (by omega) hro hmH
      by_cases g2 : q_open C (nI m)
      · obtain ⟨p', hp, hp2, hp3⟩ := pO_in bc.wd hro hmH (oi.mp g2)
        obtain ⟨n1, rfl⟩ : ∃ n1, nO = n1 + 1 := ⟨nO - 1, by omega⟩
        have e7 : sH (sH C (nI m) 8 0) (nI m) 9 (-1) = upd (upd C (52 + 10 * m + 8) 0) (52 + 10 * m + 9) (-1) := by rw [sH_8 lm, sH_9 lm]
        have c1 := C_X7_carryOrder_c (C := C) (Hs := (W, nI o, nI n)) (RS := RS) (SD := SD) (XS := XS) (YS := YS) (OR := OR) (shn := shn) (T1 := T1) (P1 := P1) (f := f) (t := t) (bg := bg) (en := en) (fi := nI m) (se := se) (nu := nu) (T2 := T2) (P2 := P2) h99 gq g2
        rw [e7] at c1
        exact Or.inr ⟨_, _, _, lef, top, shf, arr, goo, ord, why, son, tri, shm, trs, rX_mono (rX_close (by omega) rx hmH (by omega) hp2) (by omega), c1, C_X8_carries_c h99 rfl lm e147 (by omega) (by omega) hp3⟩
      · have gm : ¬ m ∈ ordL d nO := fun z => g2 (oi.mpr z)
        exact Or.inl ⟨C_X7_carryOrder_cn h99 gq g2, C_X8_carries_cn h99 rfl e147 l3 (pO_out bc.wd hro hmH gm)⟩
  · have q1 : fi = a := c6 (fun z => by rw [z] at hk2; exact absurd hk2 (by decide))
    have q2 : se = b := c7 hk2
    obtain ⟨q3, q4⟩ := m3 hk2
    have q5 : fst = fi := q3.trans q1.symm
    have q6 : snd = se := q4.trans q2.symm
    subst q5
    subst q6
    by_cases g2 : q_cs d fst snd
    · have e7 : sP (sP C 0 (gG C 0 + fst)) 1 (gG (sP C 0 (gG C 0 + fst)) 1 + snd) = upd (upd C 0 (d 0 + fst)) 1 (d 1 + snd) := by
        rw [G_0 hpx, sP_0, show gG (upd C 0 (d 0 + fst)) 1 = d 1 from (gG_k _ (k := 1) (by omega)).trans ((upd_ne (by omega)).trans (hpx 1 1 (px_v 1 (by omega))))]
        exact sP_1
      have c1 := C_X7_carryOrder_v (C := C) (Hs := (W, nI o, nI n)) (RS := RS) (SD := SD) (XS := XS) (YS := YS) (OR := OR) (shn := shn) (T1 := T1) (P1 := P1) (f := f) (t := t) (bg := bg) (en := en) (fi := fst) (se := snd) (nu := nu) (T2 := T2) (P2 := P2) hk2 ((cm_cs hpx).mpr g2)
      rw [e7] at c1
      exact Or.inr ⟨_, _, _, lef, top, shf, arr, goo, ord, why, son, tri, shm, trs, rX_mono (rX_pair (rX_pair rx (px_v 0 (by omega)) (okc_v01 l1 l2 l3 (by omega) (iR_rg g2.1 (by decide) (by decide)))) (px_v 1 (by omega)) (okc_v01 l1 l2 l3 (by omega) (iR_rg g2.2 (by decide) (by decide)))) (by omega), c1, C_X8_carries_v hk2 g2⟩
    · exact Or.inl ⟨C_X7_carryOrder_vn hk2 (fun z => g2 ((cm_cs hpx).mp z)), C_X8_carries_vn hk2 g2⟩
  · have hsd := p_all_sd bc.wd
    have h5 : ∀ k, k ≤ nH → gG (rmC C RS SD k) 5 = nI nH := fun k hk => (G_5 (rX_rm rx sr hsd k hk).2.1).trans (wX_wD (rX_rm rx sr hsd k hk).1).1.2.2.2.2.1
    obtain ⟨j1, j2, j3, j4, j5, j6, j7, j8, j9, j10, c2⟩ := C_X8_carries_t (d := d) (was := was) (sta := nI n) (text := text) (typ := nI t) (at_ := at_) (sig := sig) (fst := fst) (snd := snd) (rea := rea) (lef := lef) (top := top) (shf := shf) (arr := arr) (goo := goo) (ord := ord) (why := why) (son := son) (shn := shm) (tri := tri) (trs := trs) hk2 bc.wd bc.hwi
    exact Or.inr ⟨_, _, _, j1, j2, j3, j4, j5, j6, j7, j8, j9, (p_all d nA nH nO).2.2, j10, rX_mono (rX_rm rx sr hsd nH (Nat.le_refl _)) (by omega), C_X7_carryOrder_t hk2 h5 l2, c2⟩
