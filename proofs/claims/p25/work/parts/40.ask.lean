/-! QUESTIONS, told in the row's meaning d -/
/-- the class's row C stands for d, and what is shown stands -/
def zO (C d RS SD XS YS : aF) (shn : Int32) (nA nH nO B : Nat) : Prop := rX C d nA nH nO B ∧ sR d nH RS SD XS YS (p_all d nA nH nO).1 (p_all d nA nH nO).2.1 ∧ shn = (p_all d nA nH nO).2.2 ∧ B < 2 ^ 28
theorem zO_w {C d RS SD XS YS : aF} {shn : Int32} {nA nH nO B : Nat} (Z : zO C d RS SD XS YS shn nA nH nO B) : wD d nA nH nO ∧ wR d nA nH ∧ wI d nO := by
  have bc := rC_bC (Nat.lt_trans Z.2.2.2 (by omega)) (rX_rC Z.1)
  exact ⟨bc.wd, (wX_wD Z.1.1).2, bc.hwi⟩
/-- the place that was found last, of hint h as it is shown -/
noncomputable def fP (C d : aF) (nA nH nO h : Nat) : tP := f_P C (nI h) ((p_all d nA nH nO).2.1 h) (gG C 2) (gG C 3)
theorem iO_at {h : Nat} : ∀ {L : List Nat} {i k : Nat}, L.Nodup → L[i]? = some h → iO h L k = nI (k + i)
  | [], i, k, _, e => by simp at e
  | x :: L, i, k, hn, e => by
    obtain ⟨n1, n2⟩ := List.nodup_cons.mp hn
    show (if x = h then nI k else iO h L (k + 1)) = nI (k + i)
    cases i with
    | zero =>
      have ex : x = h := by simpa using e
      rw [if_pos ex]; rfl
    | succ i =>
      have e2 : L[i]? = some h := by simpa using e
      have hm := List.mem_of_getElem? e2
      rw [if_neg (fun z => by rw [z] at n1; exact n1 hm), iO_at n2 e2, show k + 1 + i = k + (i + 1) by omega]
theorem iO_no {h : Nat} : ∀ {L : List Nat} {k : Nat}, ¬ h ∈ L → iO h L k = -10004
  | [], _, _ => rfl
  | x :: L, k, hn => by
    show (if x = h then nI k else iO h L (k + 1)) = _
    rw [if_neg (fun z => hn (by rw [z]; exact List.mem_cons_self)), iO_no (fun z => hn (List.mem_cons_of_mem _ z))]
theorem Q_count_0 {C W : aF} {o n : Nat} {RS SD XS YS OR : aF} {shn : Int32} {T1 : tT} {P1 : tP} {Od : tO} {T2 : tT} {P2 : tP} {d : aF} {nA nH nO B : Nat} (Z : zO C d RS SD XS YS shn nA nH nO B) : mCt k_X7_count [.ref 0, .int 0] (cH C (W, nI o, nI n) (RS, SD, XS, YS, OR, shn) T1 P1 Od T2 P2) (some (.int (d 0))) (cH C (W, nI o, nI n) (RS, SD, XS, YS, OR, shn) T1 P1 Od T2 P2) := by
  obtain ⟨rx, sr, hshn, hB⟩ := Z
  obtain ⟨hw, hpx, hro⟩ := id rx
  obtain ⟨l1, l2, l3, hw0⟩ := id hw
  have bc := rC_bC (by omega) (rX_rC rx)
  have e9 : d 9 = nI nA := bc.wd.2.2.2.1
  have e50 : d 50 = nI nH := bc.wd.2.2.2.2.1
  exact mCt_val (G_0 hpx) (C_X7_count_0)
theorem Q_count_1 {C W : aF} {o n : Nat} {RS SD XS YS OR : aF} {shn : Int32} {T1 : tT} {P1 : tP} {Od : tO} {T2 : tT} {P2 : tP} {d : aF} {nA nH nO B : Nat} (Z : zO C d RS SD XS YS shn nA nH nO B) : mCt k_X7_count [.ref 0, .int 1] (cH C (W, nI o, nI n) (RS, SD, XS, YS, OR, shn) T1 P1 Od T2 P2) (some (.int (d 1))) (cH C (W, nI o, nI n) (RS, SD, XS, YS, OR, shn) T1 P1 Od T2 P2) := by
  obtain ⟨rx, sr, hshn, hB⟩ := Z
  obtain ⟨hw, hpx, hro⟩ := id rx
  obtain ⟨l1, l2, l3, hw0⟩ := id hw
  have bc := rC_bC (by omega) (rX_rC rx)
  have e9 : d 9 = nI nA := bc.wd.2.2.2.1
  have e50 : d 50 = nI nH := bc.wd.2.2.2.2.1
  exact mCt_val (G_1 hpx) (C_X7_count_1)
theorem Q_count_2 {C W : aF} {o n : Nat} {RS SD XS YS OR : aF} {shn : Int32} {T1 : tT} {P1 : tP} {Od : tO} {T2 : tT} {P2 : tP} {d : aF} {nA nH nO B : Nat} (Z : zO C d RS SD XS YS shn nA nH nO B) : mCt k_X7_count [.ref 0, .int 2] (cH C (W, nI o, nI n) (RS, SD, XS, YS, OR, shn) T1 P1 Od T2 P2) (some (.int (d 2))) (cH C (W, nI o, nI n) (RS, SD, XS, YS, OR, shn) T1 P1 Od T2 P2) := by
  obtain ⟨rx, sr, hshn, hB⟩ := Z
  obtain ⟨hw, hpx, hro⟩ := id rx
  obtain ⟨l1, l2, l3, hw0⟩ := id hw
  have bc := rC_bC (by omega) (rX_rC rx)
  have e9 : d 9 = nI nA := bc.wd.2.2.2.1
  have e50 : d 50 = nI nH := bc.wd.2.2.2.2.1
  exact mCt_val (G_2 hpx) (C_X7_count_2)
theorem Q_count_3 {C W : aF} {o n : Nat} {RS SD XS YS OR : aF} {shn : Int32} {T1 : tT} {P1 : tP} {Od : tO} {T2 : tT} {P2 : tP} {d : aF} {nA nH nO B : Nat} (Z : zO C d RS SD XS YS shn nA nH nO B) : mCt k_X7_count [.ref 0, .int 3] (cH C (W, nI o, nI n) (RS, SD, XS, YS, OR, shn) T1 P1 Od T2 P2) (some (.int (d 3))) (cH C (W, nI o, nI n) (RS, SD, XS, YS, OR, shn) T1 P1 Od T2 P2) := by
  obtain ⟨rx, sr, hshn, hB⟩ := Z
  obtain ⟨hw, hpx, hro⟩ := id rx
  obtain ⟨l1, l2, l3, hw0⟩ := id hw
  have bc := rC_bC (by omega) (rX_rC rx)
  have e9 : d 9 = nI nA := bc.wd.2.2.2.1
  have e50 : d 50 = nI nH := bc.wd.2.2.2.2.1
  exact mCt_val (G_3 hpx) (C_X7_count_3)
theorem Q_count_4 {C W : aF} {o n : Nat} {RS SD XS YS OR : aF} {shn : Int32} {T1 : tT} {P1 : tP} {Od : tO} {T2 : tT} {P2 : tP} {d : aF} {nA nH nO B : Nat} (Z : zO C d RS SD XS YS shn nA nH nO B) : mCt k_X7_count [.ref 0, .int 4] (cH C (W, nI o, nI n) (RS, SD, XS, YS, OR, shn) T1 P1 Od T2 P2) (some (.int (nI nA))) (cH C (W, nI o, nI n) (RS, SD, XS, YS, OR, shn) T1 P1 Od T2 P2) := by
  obtain ⟨rx, sr, hshn, hB⟩ := Z
  obtain ⟨hw, hpx, hro⟩ := id rx
  obtain ⟨l1, l2, l3, hw0⟩ := id hw
  have bc := rC_bC (by omega) (rX_rC rx)
  have e9 : d 9 = nI nA := bc.wd.2.2.2.1
  have e50 : d 50 = nI nH := bc.wd.2.2.2.2.1
  exact mCt_val ((G_4 hpx).trans e9) (C_X7_count_4)
theorem Q_count_5 {C W : aF} {o n : Nat} {RS SD XS YS OR : aF} {shn : Int32} {T1 : tT} {P1 : tP} {Od : tO} {T2 : tT} {P2 : tP} {d : aF} {nA nH nO B : Nat} (Z : zO C d RS SD XS YS shn nA nH nO B) : mCt k_X7_count [.ref 0, .int 5] (cH C (W, nI o, nI n) (RS, SD, XS, YS, OR, shn) T1 P1 Od T2 P2) (some (.int (nI nH))) (cH C (W, nI o, nI n) (RS, SD, XS, YS, OR, shn) T1 P1 Od T2 P2) := by
  obtain ⟨rx, sr, hshn, hB⟩ := Z
  obtain ⟨hw, hpx, hro⟩ := id rx
  obtain ⟨l1, l2, l3, hw0⟩ := id hw
  have bc := rC_bC (by omega) (rX_rC rx)
  have e9 : d 9 = nI nA := bc.wd.2.2.2.1
  have e50 : d 50 = nI nH := bc.wd.2.2.2.2.1
  exact mCt_val ((G_5 hpx).trans e50) (C_X7_count_5)
theorem Q_count_6 {C W : aF} {o n : Nat} {RS SD XS YS OR : aF} {shn : Int32} {T1 : tT} {P1 : tP} {Od : tO} {T2 : tT} {P2 : tP} {d : aF} {nA nH nO B : Nat} (Z : zO C d RS SD XS YS shn nA nH nO B) : mCt k_X7_count [.ref 0, .int 6] (cH C (W, nI o, nI n) (RS, SD, XS, YS, OR, shn) T1 P1 Od T2 P2) (some (.int (nI nO))) (cH C (W, nI o, nI n) (RS, SD, XS, YS, OR, shn) T1 P1 Od T2 P2) := by
  obtain ⟨rx, sr, hshn, hB⟩ := Z
  obtain ⟨hw, hpx, hro⟩ := id rx
  obtain ⟨l1, l2, l3, hw0⟩ := id hw
  have bc := rC_bC (by omega) (rX_rC rx)
  have e9 : d 9 = nI nA := bc.wd.2.2.2.1
  have e50 : d 50 = nI nH := bc.wd.2.2.2.2.1
  exact mCt_val (by rw [cP_nI, bc.hno]) (C_X7_count_6 bc.h5 l2)
theorem Q_count_7 {C W : aF} {o n : Nat} {RS SD XS YS OR : aF} {shn : Int32} {T1 : tT} {P1 : tP} {Od : tO} {T2 : tT} {P2 : tP} {d : aF} {nA nH nO B : Nat} (Z : zO C d RS SD XS YS shn nA nH nO B) : mCt k_X7_count [.ref 0, .int 7] (cH C (W, nI o, nI n) (RS, SD, XS, YS, OR, shn) T1 P1 Od T2 P2) (some (.int (p_all d nA nH nO).2.2)) (cH C (W, nI o, nI n) (RS, SD, XS, YS, OR, shn) T1 P1 Od T2 P2) := by
  obtain ⟨rx, sr, hshn, hB⟩ := Z
  obtain ⟨hw, hpx, hro⟩ := id rx
  obtain ⟨l1, l2, l3, hw0⟩ := id hw
  have bc := rC_bC (by omega) (rX_rC rx)
  have e9 : d 9 = nI nA := bc.wd.2.2.2.1
  have e50 : d 50 = nI nH := bc.wd.2.2.2.2.1
  exact mCt_val (hshn) (C_X7_count_7)
theorem Q_count_12 {C W : aF} {o n : Nat} {RS SD XS YS OR : aF} {shn : Int32} {T1 : tT} {P1 : tP} {Od : tO} {T2 : tT} {P2 : tP} {d : aF} {nA nH nO B : Nat} (Z : zO C d RS SD XS YS shn nA nH nO B) : mCt k_X7_count [.ref 0, .int 12] (cH C (W, nI o, nI n) (RS, SD, XS, YS, OR, shn) T1 P1 Od T2 P2) (some (.int (d 5))) (cH C (W, nI o, nI n) (RS, SD, XS, YS, OR, shn) T1 P1 Od T2 P2) := by
  obtain ⟨rx, sr, hshn, hB⟩ := Z
  obtain ⟨hw, hpx, hro⟩ := id rx
  obtain ⟨l1, l2, l3, hw0⟩ := id hw
  have bc := rC_bC (by omega) (rX_rC rx)
  have e9 : d 9 = nI nA := bc.wd.2.2.2.1
  have e50 : d 50 = nI nH := bc.wd.2.2.2.2.1
  exact mCt_val (show gS C 1 = d 5 from gS_d (pX_rK hpx) 1 (by omega)) (C_X7_count_12)
theorem Q_count_13 {C W : aF} {o n : Nat} {RS SD XS YS OR : aF} {shn : Int32} {T1 : tT} {P1 : tP} {Od : tO} {T2 : tT} {P2 : tP} {d : aF} {nA nH nO B : Nat} (Z : zO C d RS SD XS YS shn nA nH nO B) : mCt k_X7_count [.ref 0, .int 13] (cH C (W, nI o, nI n) (RS, SD, XS, YS, OR, shn) T1 P1 Od T2 P2) (some (.int (d 6))) (cH C (W, nI o, nI n) (RS, SD, XS, YS, OR, shn) T1 P1 Od T2 P2) := by
  obtain ⟨rx, sr, hshn, hB⟩ := Z
  obtain ⟨hw, hpx, hro⟩ := id rx
  obtain ⟨l1, l2, l3, hw0⟩ := id hw
  have bc := rC_bC (by omega) (rX_rC rx)
  have e9 : d 9 = nI nA := bc.wd.2.2.2.1
  have e50 : d 50 = nI nH := bc.wd.2.2.2.2.1
  exact mCt_val (show gS C 2 = d 6 from gS_d (pX_rK hpx) 2 (by omega)) (C_X7_count_13)
theorem Q_count_9 {C W : aF} {o n : Nat} {RS SD XS YS OR : aF} {shn : Int32} {T1 : tT} {P1 : tP} {Od : tO} {T2 : tT} {P2 : tP} {d : aF} {nA nH nO B : Nat} (Z : zO C d RS SD XS YS shn nA nH nO B) : mCt k_X7_count [.ref 0, .int 9] (cH C (W, nI o, nI n) (RS, SD, XS, YS, OR, shn) T1 P1 Od T2 P2) (some (.int (nI n))) (cH C (W, nI o, nI n) (RS, SD, XS, YS, OR, shn) T1 P1 Od T2 P2) := by
  obtain ⟨rx, sr, hshn, hB⟩ := Z
  obtain ⟨hw, hpx, hro⟩ := id rx
  obtain ⟨l1, l2, l3, hw0⟩ := id hw
  have bc := rC_bC (by omega) (rX_rC rx)
  have e9 : d 9 = nI nA := bc.wd.2.2.2.1
  have e50 : d 50 = nI nH := bc.wd.2.2.2.2.1
  exact C_X7_count_9
theorem Q_hint_0 {C W : aF} {o n : Nat} {RS SD XS YS OR : aF} {shn : Int32} {T1 : tT} {P1 : tP} {Od : tO} {T2 : tT} {P2 : tP} {d : aF} {nA nH nO B : Nat} (Z : zO C d RS SD XS YS shn nA nH nO B) {h : Nat} (hh : h < nH) : mCt k_X7_hintOf [.ref 0, .int (nI h), .int 0] (cH C (W, nI o, nI n) (RS, SD, XS, YS, OR, shn) T1 P1 Od T2 P2) (some (.int (dH d h 0))) (cH C (W, nI o, nI n) (RS, SD, XS, YS, OR, shn) T1 P1 Od T2 P2) := by
  obtain ⟨rx, sr, hshn, hB⟩ := Z
  obtain ⟨hw, hpx, hro⟩ := id rx
  obtain ⟨l1, l2, l3, hw0⟩ := id hw
  have bc := rC_bC (by omega) (rX_rC rx)
  have e9 : d 9 = nI nA := bc.wd.2.2.2.1
  have e50 : d 50 = nI nH := bc.wd.2.2.2.2.1
  have lh : h < 12 := by omega
  have gq : q_hint C (nI h) := ⟨nI_pos (by omega), by rw [G_5 hpx, e50]; exact nI_ge hh (by omega)⟩
  exact mCt_val (show gH C (nI h) 0 = dH d h 0 from gH_d (pX_rK hpx) lh 0 (by omega)) (C_X7_hintOf_0 lh gq)
theorem Q_hint_1 {C W : aF} {o n : Nat} {RS SD XS YS OR : aF} {shn : Int32} {T1 : tT} {P1 : tP} {Od : tO} {T2 : tT} {P2 : tP} {d : aF} {nA nH nO B : Nat} (Z : zO C d RS SD XS YS shn nA nH nO B) {h : Nat} (hh : h < nH) : mCt k_X7_hintOf [.ref 0, .int (nI h), .int 1] (cH C (W, nI o, nI n) (RS, SD, XS, YS, OR, shn) T1 P1 Od T2 P2) (some (.int (dH d h 1))) (cH C (W, nI o, nI n) (RS, SD, XS, YS, OR, shn) T1 P1 Od T2 P2) := by
  obtain ⟨rx, sr, hshn, hB⟩ := Z
  obtain ⟨hw, hpx, hro⟩ := id rx
  obtain ⟨l1, l2, l3, hw0⟩ := id hw
  have bc := rC_bC (by omega) (rX_rC rx)
  have e9 : d 9 = nI nA := bc.wd.2.2.2.1
  have e50 : d 50 = nI nH := bc.wd.2.2.2.2.1
  have lh : h < 12 := by omega
  have gq : q_hint C (nI h) := ⟨nI_pos (by omega), by rw [G_5 hpx, e50]; exact nI_ge hh (by omega)⟩
  exact mCt_val (show gH C (nI h) 1 = dH d h 1 from gH_d (pX_rK hpx) lh 1 (by omega)) (C_X7_hintOf_1 lh gq)
theorem Q_hint_2 {C W : aF} {o n : Nat} {RS SD XS YS OR : aF} {shn : Int32} {T1 : tT} {P1 : tP} {Od : tO} {T2 : tT} {P2 : tP} {d : aF} {nA nH nO B : Nat} (Z : zO C d RS SD XS YS shn nA nH nO B) {h : Nat} (hh : h < nH) : mCt k_X7_hintOf [.ref 0, .int (nI h), .int 2] (cH C (W, nI o, nI n) (RS, SD, XS, YS, OR, shn) T1 P1 Od T2 P2) (some (.int (dH d h 2))) (cH C (W, nI o, nI n) (RS, SD, XS, YS, OR, shn) T1 P1 Od T2 P2) := by
  obtain ⟨rx, sr, hshn, hB⟩ := Z
  obtain ⟨hw, hpx, hro⟩ := id rx
  obtain ⟨l1, l2, l3, hw0⟩ := id hw
  have bc := rC_bC (by omega) (rX_rC rx)
  have e9 : d 9 = nI nA := bc.wd.2.2.2.1
  have e50 : d 50 = nI nH := bc.wd.2.2.2.2.1
  have lh : h < 12 := by omega
  have gq : q_hint C (nI h) := ⟨nI_pos (by omega), by rw [G_5 hpx, e50]; exact nI_ge hh (by omega)⟩
  exact mCt_val (show gH C (nI h) 2 = dH d h 2 from gH_d (pX_rK hpx) lh 2 (by omega)) (C_X7_hintOf_2 lh gq)
theorem Q_hint_3 {C W : aF} {o n : Nat} {RS SD XS YS OR : aF} {shn : Int32} {T1 : tT} {P1 : tP} {Od : tO} {T2 : tT} {P2 : tP} {d : aF} {nA nH nO B : Nat} (Z : zO C d RS SD XS YS shn nA nH nO B) {h : Nat} (hh : h < nH) : mCt k_X7_hintOf [.ref 0, .int (nI h), .int 3] (cH C (W, nI o, nI n) (RS, SD, XS, YS, OR, shn) T1 P1 Od T2 P2) (some (.int (dH d h 3))) (cH C (W, nI o, nI n) (RS, SD, XS, YS, OR, shn) T1 P1 Od T2 P2) := by
  obtain ⟨rx, sr, hshn, hB⟩ := Z
  obtain ⟨hw, hpx, hro⟩ := id rx
  obtain ⟨l1, l2, l3, hw0⟩ := id hw
  have bc := rC_bC (by omega) (rX_rC rx)
  have e9 : d 9 = nI nA := bc.wd.2.2.2.1
  have e50 : d 50 = nI nH := bc.wd.2.2.2.2.1
  have lh : h < 12 := by omega
  have gq : q_hint C (nI h) := ⟨nI_pos (by omega), by rw [G_5 hpx, e50]; exact nI_ge hh (by omega)⟩
  exact mCt_val (show gH C (nI h) 3 = dH d h 3 from gH_d (pX_rK hpx) lh 3 (by omega)) (C_X7_hintOf_3 lh gq)
theorem Q_hint_4 {C W : aF} {o n : Nat} {RS SD XS YS OR : aF} {shn : Int32} {T1 : tT} {P1 : tP} {Od : tO} {T2 : tT} {P2 : tP} {d : aF} {nA nH nO B : Nat} (Z : zO C d RS SD XS YS shn nA nH nO B) {h : Nat} (hh : h < nH) : mCt k_X7_hintOf [.ref 0, .int (nI h), .int 4] (cH C (W, nI o, nI n) (RS, SD, XS, YS, OR, shn) T1 P1 Od T2 P2) (some (.int (dH d h 4))) (cH C (W, nI o, nI n) (RS, SD, XS, YS, OR, shn) T1 P1 Od T2 P2) := by
  obtain ⟨rx, sr, hshn, hB⟩ := Z
  obtain ⟨hw, hpx, hro⟩ := id rx
  obtain ⟨l1, l2, l3, hw0⟩ := id hw
  have bc := rC_bC (by omega) (rX_rC rx)
  have e9 : d 9 = nI nA := bc.wd.2.2.2.1
  have e50 : d 50 = nI nH := bc.wd.2.2.2.2.1
  have lh : h < 12 := by omega
  have gq : q_hint C (nI h) := ⟨nI_pos (by omega), by rw [G_5 hpx, e50]; exact nI_ge hh (by omega)⟩
  exact mCt_val (show gH C (nI h) 4 = dH d h 4 from gH_d (pX_rK hpx) lh 4 (by omega)) (C_X7_hintOf_4 lh gq)
theorem Q_hint_5 {C W : aF} {o n : Nat} {RS SD XS YS OR : aF} {shn : Int32} {T1 : tT} {P1 : tP} {Od : tO} {T2 : tT} {P2 : tP} {d : aF} {nA nH nO B : Nat} (Z : zO C d RS SD XS YS shn nA nH nO B) {h : Nat} (hh : h < nH) : mCt k_X7_hintOf [.ref 0, .int (nI h), .int 5] (cH C (W, nI o, nI n) (RS, SD, XS, YS, OR, shn) T1 P1 Od T2 P2) (some (.int (dH d h 5))) (cH C (W, nI o, nI n) (RS, SD, XS, YS, OR, shn) T1 P1 Od T2 P2) := by
  obtain ⟨rx, sr, hshn, hB⟩ := Z
  obtain ⟨hw, hpx, hro⟩ := id rx
  obtain ⟨l1, l2, l3, hw0⟩ := id hw
  have bc := rC_bC (by omega) (rX_rC rx)
  have e9 : d 9 = nI nA := bc.wd.2.2.2.1
  have e50 : d 50 = nI nH := bc.wd.2.2.2.2.1
  have lh : h < 12 := by omega
  have gq : q_hint C (nI h) := ⟨nI_pos (by omega), by rw [G_5 hpx, e50]; exact nI_ge hh (by omega)⟩
  exact mCt_val (show gH C (nI h) 5 = dH d h 5 from gH_d (pX_rK hpx) lh 5 (by omega)) (C_X7_hintOf_5 lh gq)
theorem Q_hint_6 {C W : aF} {o n : Nat} {RS SD XS YS OR : aF} {shn : Int32} {T1 : tT} {P1 : tP} {Od : tO} {T2 : tT} {P2 : tP} {d : aF} {nA nH nO B : Nat} (Z : zO C d RS SD XS YS shn nA nH nO B) {h : Nat} (hh : h < nH) : mCt k_X7_hintOf [.ref 0, .int (nI h), .int 6] (cH C (W, nI o, nI n) (RS, SD, XS, YS, OR, shn) T1 P1 Od T2 P2) (some (.int (dH d h 6))) (cH C (W, nI o, nI n) (RS, SD, XS, YS, OR, shn) T1 P1 Od T2 P2) := by
  obtain ⟨rx, sr, hshn, hB⟩ := Z
  obtain ⟨hw, hpx, hro⟩ := id rx
  obtain ⟨l1, l2, l3, hw0⟩ := id hw
  have bc := rC_bC (by omega) (rX_rC rx)
  have e9 : d 9 = nI nA := bc.wd.2.2.2.1
  have e50 : d 50 = nI nH := bc.wd.2.2.2.2.1
  have lh : h < 12 := by omega
  have gq : q_hint C (nI h) := ⟨nI_pos (by omega), by rw [G_5 hpx, e50]; exact nI_ge hh (by omega)⟩
  exact mCt_val (show gH C (nI h) 6 = dH d h 6 from gH_d (pX_rK hpx) lh 6 (by omega)) (C_X7_hintOf_6 lh gq)
theorem Q_hint_7 {C W : aF} {o n : Nat} {RS SD XS YS OR : aF} {shn : Int32} {T1 : tT} {P1 : tP} {Od : tO} {T2 : tT} {P2 : tP} {d : aF} {nA nH nO B : Nat} (Z : zO C d RS SD XS YS shn nA nH nO B) {h : Nat} (hh : h < nH) : mCt k_X7_hintOf [.ref 0, .int (nI h), .int 7] (cH C (W, nI o, nI n) (RS, SD, XS, YS, OR, shn) T1 P1 Od T2 P2) (some (.int (dH d h 7))) (cH C (W, nI o, nI n) (RS, SD, XS, YS, OR, shn) T1 P1 Od T2 P2) := by
  obtain ⟨rx, sr, hshn, hB⟩ := Z
  obtain ⟨hw, hpx, hro⟩ := id rx
  obtain ⟨l1, l2, l3, hw0⟩ := id hw
  have bc := rC_bC (by omega) (rX_rC rx)
  have e9 : d 9 = nI nA := bc.wd.2.2.2.1
  have e50 : d 50 = nI nH := bc.wd.2.2.2.2.1
  have lh : h < 12 := by omega
  have gq : q_hint C (nI h) := ⟨nI_pos (by omega), by rw [G_5 hpx, e50]; exact nI_ge hh (by omega)⟩
  exact mCt_val (show gH C (nI h) 7 = dH d h 7 from gH_d (pX_rK hpx) lh 7 (by omega)) (C_X7_hintOf_7 lh gq)
theorem Q_hint_8 {C W : aF} {o n : Nat} {RS SD XS YS OR : aF} {shn : Int32} {T1 : tT} {P1 : tP} {Od : tO} {T2 : tT} {P2 : tP} {d : aF} {nA nH nO B : Nat} (Z : zO C d RS SD XS YS shn nA nH nO B) {h : Nat} (hh : h < nH) : mCt k_X7_hintOf [.ref 0, .int (nI h), .int 8] (cH C (W, nI o, nI n) (RS, SD, XS, YS, OR, shn) T1 P1 Od T2 P2) (some (.int ((p_all d nA nH nO).1 h))) (cH C (W, nI o, nI n) (RS, SD, XS, YS, OR, shn) T1 P1 Od T2 P2) := by
  obtain ⟨rx, sr, hshn, hB⟩ := Z
  obtain ⟨hw, hpx, hro⟩ := id rx
  obtain ⟨l1, l2, l3, hw0⟩ := id hw
  have bc := rC_bC (by omega) (rX_rC rx)
  have e9 : d 9 = nI nA := bc.wd.2.2.2.1
  have e50 : d 50 = nI nH := bc.wd.2.2.2.2.1
  have lh : h < 12 := by omega
  have gq : q_hint C (nI h) := ⟨nI_pos (by omega), by rw [G_5 hpx, e50]; exact nI_ge hh (by omega)⟩
  exact mCt_val (sr h hh).1 (C_X7_hintOf_8 lh gq)
theorem Q_hint_9 {C W : aF} {o n : Nat} {RS SD XS YS OR : aF} {shn : Int32} {T1 : tT} {P1 : tP} {Od : tO} {T2 : tT} {P2 : tP} {d : aF} {nA nH nO B : Nat} (Z : zO C d RS SD XS YS shn nA nH nO B) {h : Nat} (hh : h < nH) (gs : ¬ (p_all d nA nH nO).2.1 h = -1) : mCt k_X7_hintOf [.ref 0, .int (nI h), .int 9] (cH C (W, nI o, nI n) (RS, SD, XS, YS, OR, shn) T1 P1 Od T2 P2) (some (.int ((p_all d nA nH nO).2.1 h))) (cH C (W, nI o, nI n) (RS, SD, XS, YS, OR, shn) T1 P1 Od T2 (fP C d nA nH nO h)) := by
  obtain ⟨rx, sr, hshn, hB⟩ := Z
  obtain ⟨hw, hpx, hro⟩ := id rx
  obtain ⟨l1, l2, l3, hw0⟩ := id hw
  have bc := rC_bC (by omega) (rX_rC rx)
  have e9 : d 9 = nI nA := bc.wd.2.2.2.1
  have e50 : d 50 = nI nH := bc.wd.2.2.2.2.1
  have lh : h < 12 := by omega
  have gq : q_hint C (nI h) := ⟨nI_pos (by omega), by rw [G_5 hpx, e50]; exact nI_ge hh (by omega)⟩
  have sh := sr h hh
  have hS := sh.2.1.mpr gs
  have hsd := (p_all_sd bc.wd h).resolve_left gs
  have F := f_eqW bc.wd (wX_wD hw).2 (pX_rK hpx) hh hsd (vw := gG C 2) (vh := gG C 3) (G_2 hpx).symm (G_3 hpx).symm
  exact mCt_val (rfl) (C_X7_hintOf_9 lh gq hS (sh.2.2 gs).1)
theorem Q_hint_10 {C W : aF} {o n : Nat} {RS SD XS YS OR : aF} {shn : Int32} {T1 : tT} {P1 : tP} {Od : tO} {T2 : tT} {P2 : tP} {d : aF} {nA nH nO B : Nat} (Z : zO C d RS SD XS YS shn nA nH nO B) {h : Nat} (hh : h < nH) (gs : ¬ (p_all d nA nH nO).2.1 h = -1) : mCt k_X7_hintOf [.ref 0, .int (nI h), .int 10] (cH C (W, nI o, nI n) (RS, SD, XS, YS, OR, shn) T1 P1 Od T2 P2) (some (.int (p_x d h ((p_all d nA nH nO).2.1 h)))) (cH C (W, nI o, nI n) (RS, SD, XS, YS, OR, shn) T1 P1 Od T2 (fP C d nA nH nO h)) := by
  obtain ⟨rx, sr, hshn, hB⟩ := Z
  obtain ⟨hw, hpx, hro⟩ := id rx
  obtain ⟨l1, l2, l3, hw0⟩ := id hw
  have bc := rC_bC (by omega) (rX_rC rx)
  have e9 : d 9 = nI nA := bc.wd.2.2.2.1
  have e50 : d 50 = nI nH := bc.wd.2.2.2.2.1
  have lh : h < 12 := by omega
  have gq : q_hint C (nI h) := ⟨nI_pos (by omega), by rw [G_5 hpx, e50]; exact nI_ge hh (by omega)⟩
  have sh := sr h hh
  have hS := sh.2.1.mpr gs
  have hsd := (p_all_sd bc.wd h).resolve_left gs
  have F := f_eqW bc.wd (wX_wD hw).2 (pX_rK hpx) hh hsd (vw := gG C 2) (vh := gG C 3) (G_2 hpx).symm (G_3 hpx).symm
  exact mCt_val (F.1) (C_X7_hintOf_10 lh gq hS (sh.2.2 gs).1)
theorem Q_hint_11 {C W : aF} {o n : Nat} {RS SD XS YS OR : aF} {shn : Int32} {T1 : tT} {P1 : tP} {Od : tO} {T2 : tT} {P2 : tP} {d : aF} {nA nH nO B : Nat} (Z : zO C d RS SD XS YS shn nA nH nO B) {h : Nat} (hh : h < nH) (gs : ¬ (p_all d nA nH nO).2.1 h = -1) : mCt k_X7_hintOf [.ref 0, .int (nI h), .int 11] (cH C (W, nI o, nI n) (RS, SD, XS, YS, OR, shn) T1 P1 Od T2 P2) (some (.int (p_y d h ((p_all d nA nH nO).2.1 h)))) (cH C (W, nI o, nI n) (RS, SD, XS, YS, OR, shn) T1 P1 Od T2 (fP C d nA nH nO h)) := by
  obtain ⟨rx, sr, hshn, hB⟩ := Z
  obtain ⟨hw, hpx, hro⟩ := id rx
  obtain ⟨l1, l2, l3, hw0⟩ := id hw
  have bc := rC_bC (by omega) (rX_rC rx)
  have e9 : d 9 = nI nA := bc.wd.2.2.2.1
  have e50 : d 50 = nI nH := bc.wd.2.2.2.2.1
  have lh : h < 12 := by omega
  have gq : q_hint C (nI h) := ⟨nI_pos (by omega), by rw [G_5 hpx, e50]; exact nI_ge hh (by omega)⟩
  have sh := sr h hh
  have hS := sh.2.1.mpr gs
  have hsd := (p_all_sd bc.wd h).resolve_left gs
  have F := f_eqW bc.wd (wX_wD hw).2 (pX_rK hpx) hh hsd (vw := gG C 2) (vh := gG C 3) (G_2 hpx).symm (G_3 hpx).symm
  exact mCt_val (F.2.1) (C_X7_hintOf_11 lh gq hS (sh.2.2 gs).1)
theorem Q_hint_12 {C W : aF} {o n : Nat} {RS SD XS YS OR : aF} {shn : Int32} {T1 : tT} {P1 : tP} {Od : tO} {T2 : tT} {P2 : tP} {d : aF} {nA nH nO B : Nat} (Z : zO C d RS SD XS YS shn nA nH nO B) {h : Nat} (hh : h < nH) (gs : ¬ (p_all d nA nH nO).2.1 h = -1) : mCt k_X7_hintOf [.ref 0, .int (nI h), .int 12] (cH C (W, nI o, nI n) (RS, SD, XS, YS, OR, shn) T1 P1 Od T2 P2) (some (.int (p_ar d h ((p_all d nA nH nO).2.1 h)))) (cH C (W, nI o, nI n) (RS, SD, XS, YS, OR, shn) T1 P1 Od T2 (fP C d nA nH nO h)) := by
  obtain ⟨rx, sr, hshn, hB⟩ := Z
  obtain ⟨hw, hpx, hro⟩ := id rx
  obtain ⟨l1, l2, l3, hw0⟩ := id hw
  have bc := rC_bC (by omega) (rX_rC rx)
  have e9 : d 9 = nI nA := bc.wd.2.2.2.1
  have e50 : d 50 = nI nH := bc.wd.2.2.2.2.1
  have lh : h < 12 := by omega
  have gq : q_hint C (nI h) := ⟨nI_pos (by omega), by rw [G_5 hpx, e50]; exact nI_ge hh (by omega)⟩
  have sh := sr h hh
  have hS := sh.2.1.mpr gs
  have hsd := (p_all_sd bc.wd h).resolve_left gs
  have F := f_eqW bc.wd (wX_wD hw).2 (pX_rK hpx) hh hsd (vw := gG C 2) (vh := gG C 3) (G_2 hpx).symm (G_3 hpx).symm
  exact mCt_val (F.2.2.2.1) (C_X7_hintOf_12 lh gq hS (sh.2.2 gs).1)
theorem Q_hint_13 {C W : aF} {o n : Nat} {RS SD XS YS OR : aF} {shn : Int32} {T1 : tT} {P1 : tP} {Od : tO} {T2 : tT} {P2 : tP} {d : aF} {nA nH nO B : Nat} (Z : zO C d RS SD XS YS shn nA nH nO B) {h : Nat} (hh : h < nH) (gs : ¬ (p_all d nA nH nO).2.1 h = -1) : mCt k_X7_hintOf [.ref 0, .int (nI h), .int 13] (cH C (W, nI o, nI n) (RS, SD, XS, YS, OR, shn) T1 P1 Od T2 P2) (some (.int (b2i (p_gd d h ((p_all d nA nH nO).2.1 h))))) (cH C (W, nI o, nI n) (RS, SD, XS, YS, OR, shn) T1 P1 Od T2 (fP C d nA nH nO h)) := by
  obtain ⟨rx, sr, hshn, hB⟩ := Z
  obtain ⟨hw, hpx, hro⟩ := id rx
  obtain ⟨l1, l2, l3, hw0⟩ := id hw
  have bc := rC_bC (by omega) (rX_rC rx)
  have e9 : d 9 = nI nA := bc.wd.2.2.2.1
  have e50 : d 50 = nI nH := bc.wd.2.2.2.2.1
  have lh : h < 12 := by omega
  have gq : q_hint C (nI h) := ⟨nI_pos (by omega), by rw [G_5 hpx, e50]; exact nI_ge hh (by omega)⟩
  have sh := sr h hh
  have hS := sh.2.1.mpr gs
  have hsd := (p_all_sd bc.wd h).resolve_left gs
  have F := f_eqW bc.wd (wX_wD hw).2 (pX_rK hpx) hh hsd (vw := gG C 2) (vh := gG C 3) (G_2 hpx).symm (G_3 hpx).symm
  exact mCt_val (b2i_eq F.2.2.2.2.1) (C_X7_hintOf_13 lh gq hS (sh.2.2 gs).1)
theorem Q_hint_14 {C W : aF} {o n : Nat} {RS SD XS YS OR : aF} {shn : Int32} {T1 : tT} {P1 : tP} {Od : tO} {T2 : tT} {P2 : tP} {d : aF} {nA nH nO B : Nat} (Z : zO C d RS SD XS YS shn nA nH nO B) {h : Nat} (hh : h < nH) (gs : ¬ (p_all d nA nH nO).2.1 h = -1) : mCt k_X7_hintOf [.ref 0, .int (nI h), .int 14] (cH C (W, nI o, nI n) (RS, SD, XS, YS, OR, shn) T1 P1 Od T2 P2) (some (.int (p_sh d h ((p_all d nA nH nO).2.1 h)))) (cH C (W, nI o, nI n) (RS, SD, XS, YS, OR, shn) T1 P1 Od T2 (fP C d nA nH nO h)) := by
  obtain ⟨rx, sr, hshn, hB⟩ := Z
  obtain ⟨hw, hpx, hro⟩ := id rx
  obtain ⟨l1, l2, l3, hw0⟩ := id hw
  have bc := rC_bC (by omega) (rX_rC rx)
  have e9 : d 9 = nI nA := bc.wd.2.2.2.1
  have e50 : d 50 = nI nH := bc.wd.2.2.2.2.1
  have lh : h < 12 := by omega
  have gq : q_hint C (nI h) := ⟨nI_pos (by omega), by rw [G_5 hpx, e50]; exact nI_ge hh (by omega)⟩
  have sh := sr h hh
  have hS := sh.2.1.mpr gs
  have hsd := (p_all_sd bc.wd h).resolve_left gs
  have F := f_eqW bc.wd (wX_wD hw).2 (pX_rK hpx) hh hsd (vw := gG C 2) (vh := gG C 3) (G_2 hpx).symm (G_3 hpx).symm
  exact mCt_val (F.2.2.1) (C_X7_hintOf_14 lh gq hS (sh.2.2 gs).1)
theorem Q_hint_9n {C W : aF} {o n : Nat} {RS SD XS YS OR : aF} {shn : Int32} {T1 : tT} {P1 : tP} {Od : tO} {T2 : tT} {P2 : tP} {d : aF} {nA nH nO B : Nat} (Z : zO C d RS SD XS YS shn nA nH nO B) {h : Nat} (hh : h < nH) (gs : (p_all d nA nH nO).2.1 h = -1) : mCt k_X7_hintOf [.ref 0, .int (nI h), .int 9] (cH C (W, nI o, nI n) (RS, SD, XS, YS, OR, shn) T1 P1 Od T2 P2) (some (.int (-10004))) (cH C (W, nI o, nI n) (RS, SD, XS, YS, OR, shn) T1 P1 Od T2 P2) := by
  obtain ⟨rx, sr, hshn, hB⟩ := Z
  obtain ⟨hw, hpx, hro⟩ := id rx
  obtain ⟨l1, l2, l3, hw0⟩ := id hw
  have bc := rC_bC (by omega) (rX_rC rx)
  have e9 : d 9 = nI nA := bc.wd.2.2.2.1
  have e50 : d 50 = nI nH := bc.wd.2.2.2.2.1
  have lh : h < 12 := by omega
  have gq : q_hint C (nI h) := ⟨nI_pos (by omega), by rw [G_5 hpx, e50]; exact nI_ge hh (by omega)⟩
  exact C_X7_hintOf_9_n lh gq (fun z => (sr h hh).2.1.mp z gs)
theorem Q_hint_15 {C W : aF} {o n : Nat} {RS SD XS YS OR : aF} {shn : Int32} {T1 : tT} {P1 : tP} {Od : tO} {T2 : tT} {P2 : tP} {d : aF} {nA nH nO B : Nat} (Z : zO C d RS SD XS YS shn nA nH nO B) {h : Nat} (hh : h < nH) : mCt k_X7_hintOf [.ref 0, .int (nI h), .int 15] (cH C (W, nI o, nI n) (RS, SD, XS, YS, OR, shn) T1 P1 Od T2 P2) (some (.int (if d (160 + h) = -1 then -10004 else d (160 + h)))) (cH C (W, nI o, nI n) (RS, SD, XS, YS, OR, shn) T1 P1 Od T2 P2) := by
  obtain ⟨rx, sr, hshn, hB⟩ := Z
  obtain ⟨hw, hpx, hro⟩ := id rx
  obtain ⟨l1, l2, l3, hw0⟩ := id hw
  have bc := rC_bC (by omega) (rX_rC rx)
  have e9 : d 9 = nI nA := bc.wd.2.2.2.1
  have e50 : d 50 = nI nH := bc.wd.2.2.2.2.1
  have lh : h < 12 := by omega
  have gq : q_hint C (nI h) := ⟨nI_pos (by omega), by rw [G_5 hpx, e50]; exact nI_ge hh (by omega)⟩
  have em : gH C (nI h) 9 = d (160 + h) := (gH_k C (k := 9) lh (by omega)).trans (hpx _ _ (px_M h lh))
  exact mCt_val (by rw [em]) (C_X7_hintOf_15 lh gq)
theorem Q_hint_16 {C W : aF} {o n : Nat} {RS SD XS YS OR : aF} {shn : Int32} {T1 : tT} {P1 : tP} {Od : tO} {T2 : tT} {P2 : tP} {d : aF} {nA nH nO B : Nat} (Z : zO C d RS SD XS YS shn nA nH nO B) {h : Nat} (hh : h < nH) : mCt k_X7_hintOf [.ref 0, .int (nI h), .int 16] (cH C (W, nI o, nI n) (RS, SD, XS, YS, OR, shn) T1 P1 Od T2 P2) (some (.int (iO h (ordL d nO) 0))) (cH C (W, nI o, nI n) (RS, SD, XS, YS, OR, shn) T1 P1 Od T2 P2) := by
  obtain ⟨rx, sr, hshn, hB⟩ := Z
  obtain ⟨hw, hpx, hro⟩ := id rx
  obtain ⟨l1, l2, l3, hw0⟩ := id hw
  have bc := rC_bC (by omega) (rX_rC rx)
  have e9 : d 9 = nI nA := bc.wd.2.2.2.1
  have e50 : d 50 = nI nH := bc.wd.2.2.2.2.1
  have lh : h < 12 := by omega
  have gq : q_hint C (nI h) := ⟨nI_pos (by omega), by rw [G_5 hpx, e50]; exact nI_ge hh (by omega)⟩
  have ev : iif (q_open C (nI h)) (nI (tn C nH (nI h))) (-10004) = iO h (ordL d nO) 0 := by
    by_cases q : h ∈ ordL d nO
    · obtain ⟨i, hi⟩ := List.getElem?_of_mem q
      rw [iif_t ((open_iff bc.wd (by omega) hro hh).mpr q), tn_at bc.wd (pX_rK hpx) (by omega) hro hi, iO_at (ordL_nodup bc.hwi) hi, Nat.zero_add]
    · rw [iif_f (fun z => q ((open_iff bc.wd (by omega) hro hh).mp z)), iO_no q]
  exact mCt_val ev (C_X7_hintOf_16 lh gq bc.h5 l2)
theorem Q_ifOn_0 {C W : aF} {o n : Nat} {RS SD XS YS OR : aF} {shn : Int32} {T1 : tT} {P1 : tP} {Od : tO} {T2 : tT} {P2 : tP} {d : aF} {nA nH nO B : Nat} (Z : zO C d RS SD XS YS shn nA nH nO B) {h : Nat} (hh : h < nH) (gn : ¬ (p_all d nA nH nO).2.1 h = -1) : mCt k_X7_ifOn [.ref 0, .int (nI h), .int ((p_all d nA nH nO).2.1 h), .int 0] (cH C (W, nI o, nI n) (RS, SD, XS, YS, OR, shn) T1 P1 Od T2 P2) (some (.int (b2i (p_in d h ((p_all d nA nH nO).2.1 h))))) (cH C (W, nI o, nI n) (RS, SD, XS, YS, OR, shn) T1 P1 Od T2 (fP C d nA nH nO h)) := by
  obtain ⟨rx, sr, hshn, hB⟩ := Z
  obtain ⟨hw, hpx, hro⟩ := id rx
  obtain ⟨l1, l2, l3, hw0⟩ := id hw
  have bc := rC_bC (by omega) (rX_rC rx)
  have e9 : d 9 = nI nA := bc.wd.2.2.2.1
  have e50 : d 50 = nI nH := bc.wd.2.2.2.2.1
  have lh : h < 12 := by omega
  have gq : q_hint C (nI h) := ⟨nI_pos (by omega), by rw [G_5 hpx, e50]; exact nI_ge hh (by omega)⟩
  have hsd := (p_all_sd bc.wd h).resolve_left gn
  have F := f_eqW bc.wd (wX_wD hw).2 (pX_rK hpx) hh hsd (vw := gG C 2) (vh := gG C 3) (G_2 hpx).symm (G_3 hpx).symm
  have gs : q_side ((p_all d nA nH nO).2.1 h) := by rcases hsd with z | z | z | z <;> rw [z] <;> exact ⟨by decide, by decide⟩
  exact mCt_val (b2i_eq F.2.2.2.2.2) (C_X7_ifOn_0 gq gs)
theorem Q_ifOn_1 {C W : aF} {o n : Nat} {RS SD XS YS OR : aF} {shn : Int32} {T1 : tT} {P1 : tP} {Od : tO} {T2 : tT} {P2 : tP} {d : aF} {nA nH nO B : Nat} (Z : zO C d RS SD XS YS shn nA nH nO B) {h : Nat} (hh : h < nH) (gn : ¬ (p_all d nA nH nO).2.1 h = -1) : mCt k_X7_ifOn [.ref 0, .int (nI h), .int ((p_all d nA nH nO).2.1 h), .int 1] (cH C (W, nI o, nI n) (RS, SD, XS, YS, OR, shn) T1 P1 Od T2 P2) (some (.int (p_x d h ((p_all d nA nH nO).2.1 h)))) (cH C (W, nI o, nI n) (RS, SD, XS, YS, OR, shn) T1 P1 Od T2 (fP C d nA nH nO h)) := by
  obtain ⟨rx, sr, hshn, hB⟩ := Z
  obtain ⟨hw, hpx, hro⟩ := id rx
  obtain ⟨l1, l2, l3, hw0⟩ := id hw
  have bc := rC_bC (by omega) (rX_rC rx)
  have e9 : d 9 = nI nA := bc.wd.2.2.2.1
  have e50 : d 50 = nI nH := bc.wd.2.2.2.2.1
  have lh : h < 12 := by omega
  have gq : q_hint C (nI h) := ⟨nI_pos (by omega), by rw [G_5 hpx, e50]; exact nI_ge hh (by omega)⟩
  have hsd := (p_all_sd bc.wd h).resolve_left gn
  have F := f_eqW bc.wd (wX_wD hw).2 (pX_rK hpx) hh hsd (vw := gG C 2) (vh := gG C 3) (G_2 hpx).symm (G_3 hpx).symm
  have gs : q_side ((p_all d nA nH nO).2.1 h) := by rcases hsd with z | z | z | z <;> rw [z] <;> exact ⟨by decide, by decide⟩
  exact mCt_val (F.1) (C_X7_ifOn_1 gq gs)
theorem Q_ifOn_2 {C W : aF} {o n : Nat} {RS SD XS YS OR : aF} {shn : Int32} {T1 : tT} {P1 : tP} {Od : tO} {T2 : tT} {P2 : tP} {d : aF} {nA nH nO B : Nat} (Z : zO C d RS SD XS YS shn nA nH nO B) {h : Nat} (hh : h < nH) (gn : ¬ (p_all d nA nH nO).2.1 h = -1) : mCt k_X7_ifOn [.ref 0, .int (nI h), .int ((p_all d nA nH nO).2.1 h), .int 2] (cH C (W, nI o, nI n) (RS, SD, XS, YS, OR, shn) T1 P1 Od T2 P2) (some (.int (p_y d h ((p_all d nA nH nO).2.1 h)))) (cH C (W, nI o, nI n) (RS, SD, XS, YS, OR, shn) T1 P1 Od T2 (fP C d nA nH nO h)) := by
  obtain ⟨rx, sr, hshn, hB⟩ := Z
  obtain ⟨hw, hpx, hro⟩ := id rx
  obtain ⟨l1, l2, l3, hw0⟩ := id hw
  have bc := rC_bC (by omega) (rX_rC rx)
  have e9 : d 9 = nI nA := bc.wd.2.2.2.1
  have e50 : d 50 = nI nH := bc.wd.2.2.2.2.1
  have lh : h < 12 := by omega
  have gq : q_hint C (nI h) := ⟨nI_pos (by omega), by rw [G_5 hpx, e50]; exact nI_ge hh (by omega)⟩
  have hsd := (p_all_sd bc.wd h).resolve_left gn
  have F := f_eqW bc.wd (wX_wD hw).2 (pX_rK hpx) hh hsd (vw := gG C 2) (vh := gG C 3) (G_2 hpx).symm (G_3 hpx).symm
  have gs : q_side ((p_all d nA nH nO).2.1 h) := by rcases hsd with z | z | z | z <;> rw [z] <;> exact ⟨by decide, by decide⟩
  exact mCt_val (F.2.1) (C_X7_ifOn_2 gq gs)
theorem Q_ifOn_3 {C W : aF} {o n : Nat} {RS SD XS YS OR : aF} {shn : Int32} {T1 : tT} {P1 : tP} {Od : tO} {T2 : tT} {P2 : tP} {d : aF} {nA nH nO B : Nat} (Z : zO C d RS SD XS YS shn nA nH nO B) {h : Nat} (hh : h < nH) (gn : ¬ (p_all d nA nH nO).2.1 h = -1) : mCt k_X7_ifOn [.ref 0, .int (nI h), .int ((p_all d nA nH nO).2.1 h), .int 3] (cH C (W, nI o, nI n) (RS, SD, XS, YS, OR, shn) T1 P1 Od T2 P2) (some (.int (p_sh d h ((p_all d nA nH nO).2.1 h)))) (cH C (W, nI o, nI n) (RS, SD, XS, YS, OR, shn) T1 P1 Od T2 (fP C d nA nH nO h)) := by
  obtain ⟨rx, sr, hshn, hB⟩ := Z
  obtain ⟨hw, hpx, hro⟩ := id rx
  obtain ⟨l1, l2, l3, hw0⟩ := id hw
  have bc := rC_bC (by omega) (rX_rC rx)
  have e9 : d 9 = nI nA := bc.wd.2.2.2.1
  have e50 : d 50 = nI nH := bc.wd.2.2.2.2.1
  have lh : h < 12 := by omega
  have gq : q_hint C (nI h) := ⟨nI_pos (by omega), by rw [G_5 hpx, e50]; exact nI_ge hh (by omega)⟩
  have hsd := (p_all_sd bc.wd h).resolve_left gn
  have F := f_eqW bc.wd (wX_wD hw).2 (pX_rK hpx) hh hsd (vw := gG C 2) (vh := gG C 3) (G_2 hpx).symm (G_3 hpx).symm
  have gs : q_side ((p_all d nA nH nO).2.1 h) := by rcases hsd with z | z | z | z <;> rw [z] <;> exact ⟨by decide, by decide⟩
  exact mCt_val (F.2.2.1) (C_X7_ifOn_3 gq gs)
theorem Q_ifOn_4 {C W : aF} {o n : Nat} {RS SD XS YS OR : aF} {shn : Int32} {T1 : tT} {P1 : tP} {Od : tO} {T2 : tT} {P2 : tP} {d : aF} {nA nH nO B : Nat} (Z : zO C d RS SD XS YS shn nA nH nO B) {h : Nat} (hh : h < nH) (gn : ¬ (p_all d nA nH nO).2.1 h = -1) : mCt k_X7_ifOn [.ref 0, .int (nI h), .int ((p_all d nA nH nO).2.1 h), .int 4] (cH C (W, nI o, nI n) (RS, SD, XS, YS, OR, shn) T1 P1 Od T2 P2) (some (.int (p_ar d h ((p_all d nA nH nO).2.1 h)))) (cH C (W, nI o, nI n) (RS, SD, XS, YS, OR, shn) T1 P1 Od T2 (fP C d nA nH nO h)) := by
  obtain ⟨rx, sr, hshn, hB⟩ := Z
  obtain ⟨hw, hpx, hro⟩ := id rx
  obtain ⟨l1, l2, l3, hw0⟩ := id hw
  have bc := rC_bC (by omega) (rX_rC rx)
  have e9 : d 9 = nI nA := bc.wd.2.2.2.1
  have e50 : d 50 = nI nH := bc.wd.2.2.2.2.1
  have lh : h < 12 := by omega
  have gq : q_hint C (nI h) := ⟨nI_pos (by omega), by rw [G_5 hpx, e50]; exact nI_ge hh (by omega)⟩
  have hsd := (p_all_sd bc.wd h).resolve_left gn
  have F := f_eqW bc.wd (wX_wD hw).2 (pX_rK hpx) hh hsd (vw := gG C 2) (vh := gG C 3) (G_2 hpx).symm (G_3 hpx).symm
  have gs : q_side ((p_all d nA nH nO).2.1 h) := by rcases hsd with z | z | z | z <;> rw [z] <;> exact ⟨by decide, by decide⟩
  exact mCt_val (F.2.2.2.1) (C_X7_ifOn_4 gq gs)
theorem Q_at {C W : aF} {o n : Nat} {RS SD XS YS OR : aF} {shn : Int32} {T1 : tT} {P1 : tP} {Od : tO} {T2 : tT} {P2 : tP} {x y : Int32} {d : aF} {nA nH nO B : Nat} (Z : zO C d RS SD XS YS shn nA nH nO B) (h1 : q_in x 3000) (h2 : q_in y 3000) : mCt k_X7_at [.ref 0, .int x, .int y] (cH C (W, nI o, nI n) (RS, SD, XS, YS, OR, shn) T1 P1 Od T2 P2) (some (.int (aT d (p_all d nA nH nO).2.1 x y nH 0))) (cH C (W, nI o, nI n) (RS, SD, XS, YS, OR, shn) T1 P1 Od T2 P2) := by
  obtain ⟨rx, sr, hshn, hB⟩ := Z
  obtain ⟨hw, hpx, hro⟩ := id rx
  obtain ⟨l1, l2, l3, hw0⟩ := id hw
  have bc := rC_bC (by omega) (rX_rC rx)
  have e9 : d 9 = nI nA := bc.wd.2.2.2.1
  have e50 : d 50 = nI nH := bc.wd.2.2.2.2.1
  exact mCt_val (fT_aT (by omega) (fun o _ ho => mP_iff bc sr (by omega))) (C_X7_at h1 h2 bc.h5 l2)
theorem Q_anchor_0 {C W : aF} {o n : Nat} {RS SD XS YS OR : aF} {shn : Int32} {T1 : tT} {P1 : tP} {Od : tO} {T2 : tT} {P2 : tP} {d : aF} {nA nH nO B : Nat} (Z : zO C d RS SD XS YS shn nA nH nO B) {a : Nat} (ha : a < nA) : mCt k_X7_anchorOf [.ref 0, .int (nI a), .int 0] (cH C (W, nI o, nI n) (RS, SD, XS, YS, OR, shn) T1 P1 Od T2 P2) (some (.int (dA d a 0))) (cH C (W, nI o, nI n) (RS, SD, XS, YS, OR, shn) T1 P1 Od T2 P2) := by
  obtain ⟨rx, sr, hshn, hB⟩ := Z
  obtain ⟨hw, hpx, hro⟩ := id rx
  obtain ⟨l1, l2, l3, hw0⟩ := id hw
  have bc := rC_bC (by omega) (rX_rC rx)
  have e9 : d 9 = nI nA := bc.wd.2.2.2.1
  have e50 : d 50 = nI nH := bc.wd.2.2.2.2.1
  have la : a < 10 := by omega
  have gq : q_anchor C (nI a) := ⟨nI_pos (by omega), by rw [G_4 hpx, e9]; exact nI_ge ha (by omega)⟩
  exact mCt_val (show gA C (nI a) 0 = dA d a 0 from gA_d (pX_rK hpx) la 0 (by omega)) (C_X7_anchorOf_0 gq)
theorem Q_anchor_1 {C W : aF} {o n : Nat} {RS SD XS YS OR : aF} {shn : Int32} {T1 : tT} {P1 : tP} {Od : tO} {T2 : tT} {P2 : tP} {d : aF} {nA nH nO B : Nat} (Z : zO C d RS SD XS YS shn nA nH nO B) {a : Nat} (ha : a < nA) : mCt k_X7_anchorOf [.ref 0, .int (nI a), .int 1] (cH C (W, nI o, nI n) (RS, SD, XS, YS, OR, shn) T1 P1 Od T2 P2) (some (.int (dA d a 1))) (cH C (W, nI o, nI n) (RS, SD, XS, YS, OR, shn) T1 P1 Od T2 P2) := by
  obtain ⟨rx, sr, hshn, hB⟩ := Z
  obtain ⟨hw, hpx, hro⟩ := id rx
  obtain ⟨l1, l2, l3, hw0⟩ := id hw
  have bc := rC_bC (by omega) (rX_rC rx)
  have e9 : d 9 = nI nA := bc.wd.2.2.2.1
  have e50 : d 50 = nI nH := bc.wd.2.2.2.2.1
  have la : a < 10 := by omega
  have gq : q_anchor C (nI a) := ⟨nI_pos (by omega), by rw [G_4 hpx, e9]; exact nI_ge ha (by omega)⟩
  exact mCt_val (show gA C (nI a) 1 = dA d a 1 from gA_d (pX_rK hpx) la 1 (by omega)) (C_X7_anchorOf_1 gq)
theorem Q_anchor_4 {C W : aF} {o n : Nat} {RS SD XS YS OR : aF} {shn : Int32} {T1 : tT} {P1 : tP} {Od : tO} {T2 : tT} {P2 : tP} {d : aF} {nA nH nO B : Nat} (Z : zO C d RS SD XS YS shn nA nH nO B) {a : Nat} (ha : a < nA) : mCt k_X7_anchorOf [.ref 0, .int (nI a), .int 4] (cH C (W, nI o, nI n) (RS, SD, XS, YS, OR, shn) T1 P1 Od T2 P2) (some (.int (b2i (q_sn d a)))) (cH C (W, nI o, nI n) (RS, SD, XS, YS, OR, shn) T1 P1 Od T2 P2) := by
  obtain ⟨rx, sr, hshn, hB⟩ := Z
  obtain ⟨hw, hpx, hro⟩ := id rx
  obtain ⟨l1, l2, l3, hw0⟩ := id hw
  have bc := rC_bC (by omega) (rX_rC rx)
  have e9 : d 9 = nI nA := bc.wd.2.2.2.1
  have e50 : d 50 = nI nH := bc.wd.2.2.2.2.1
  have la : a < 10 := by omega
  have gq : q_anchor C (nI a) := ⟨nI_pos (by omega), by rw [G_4 hpx, e9]; exact nI_ge ha (by omega)⟩
  exact mCt_val (b2i_eq (as_sn bc hpx ha)) (C_X7_anchorOf_4 gq)
theorem Q_anchor_5 {C W : aF} {o n : Nat} {RS SD XS YS OR : aF} {shn : Int32} {T1 : tT} {P1 : tP} {Od : tO} {T2 : tT} {P2 : tP} {d : aF} {nA nH nO B : Nat} (Z : zO C d RS SD XS YS shn nA nH nO B) {a : Nat} (ha : a < nA) : mCt k_X7_anchorOf [.ref 0, .int (nI a), .int 5] (cH C (W, nI o, nI n) (RS, SD, XS, YS, OR, shn) T1 P1 Od T2 P2) (some (.int (cP (fun o => dH d o 0 = nI a) nH))) (cH C (W, nI o, nI n) (RS, SD, XS, YS, OR, shn) T1 P1 Od T2 P2) := by
  obtain ⟨rx, sr, hshn, hB⟩ := Z
  obtain ⟨hw, hpx, hro⟩ := id rx
  obtain ⟨l1, l2, l3, hw0⟩ := id hw
  have bc := rC_bC (by omega) (rX_rC rx)
  have e9 : d 9 = nI nA := bc.wd.2.2.2.1
  have e50 : d 50 = nI nH := bc.wd.2.2.2.2.1
  have la : a < 10 := by omega
  have gq : q_anchor C (nI a) := ⟨nI_pos (by omega), by rw [G_4 hpx, e9]; exact nI_ge ha (by omega)⟩
  exact mCt_val (cP_congr (fun o ho => by rw [show gH C (nI o) 0 = dH d o 0 from gH_d (pX_rK hpx) (by omega) 0 (by omega)])) (C_X7_anchorOf_5 gq bc.h5 l2)
theorem Q_anchor_6 {C W : aF} {o n : Nat} {RS SD XS YS OR : aF} {shn : Int32} {T1 : tT} {P1 : tP} {Od : tO} {T2 : tT} {P2 : tP} {d : aF} {nA nH nO B : Nat} (Z : zO C d RS SD XS YS shn nA nH nO B) {a : Nat} (ha : a < nA) : mCt k_X7_anchorOf [.ref 0, .int (nI a), .int 6] (cH C (W, nI o, nI n) (RS, SD, XS, YS, OR, shn) T1 P1 Od T2 P2) (some (.int (cP (fun o => dH d o 0 = nI a ∧ ¬ (p_all d nA nH nO).2.1 o = -1) nH))) (cH C (W, nI o, nI n) (RS, SD, XS, YS, OR, shn) T1 P1 Od T2 P2) := by
  obtain ⟨rx, sr, hshn, hB⟩ := Z
  obtain ⟨hw, hpx, hro⟩ := id rx
  obtain ⟨l1, l2, l3, hw0⟩ := id hw
  have bc := rC_bC (by omega) (rX_rC rx)
  have e9 : d 9 = nI nA := bc.wd.2.2.2.1
  have e50 : d 50 = nI nH := bc.wd.2.2.2.2.1
  have la : a < 10 := by omega
  have gq : q_anchor C (nI a) := ⟨nI_pos (by omega), by rw [G_4 hpx, e9]; exact nI_ge ha (by omega)⟩
  exact mCt_val (cP_congr (fun o ho => by rw [show gH C (nI o) 0 = dH d o 0 from gH_d (pX_rK hpx) (by omega) 0 (by omega), (sr o ho).2.1]; exact And.comm)) (C_X7_anchorOf_6 gq bc.h5 l2)
