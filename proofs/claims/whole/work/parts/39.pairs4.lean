/-! PAIRS OF CALLS: hintOf -/
theorem w16_iff {w : Int32} : q_rg w 0 16 ↔ (¬ w < 0 ∧ w ≤ 16) := by unfold q_rg; rw [Int32.not_lt (a := 16)]
theorem iO_at {h : Nat} : ∀ {L : List Nat} {i k : Nat}, L.Nodup → L[i]? = some h → iO h L k = nI (k + i)
  | [], i, k, _, e => by simp at e
  | x :: L, i, k, hn, e => by
    obtain ⟨n1, n2⟩ := List.nodup_cons.mp hn
    show (if x = h then nI k else iO h L (k + 1)) = nI (k + i)
    cases i with
    | zero =>
      have ex : x = h := by simpa using e
      rw [if_pos ex]; rfl
    | succ i =>
      have e2 : L[i]? = some h := by simpa using e
      have hm := List.mem_of_getElem? e2
      rw [if_neg (fun z => by rw [z] at n1; exact n1 hm), iO_at n2 e2, show k + 1 + i = k + (i + 1) by omega]
theorem iO_no {h : Nat} : ∀ {L : List Nat} {k : Nat}, ¬ h ∈ L → iO h L k = -10004
  | [], _, _ => rfl
  | x :: L, k, hn => by
    show (if x = h then nI k else iO h L (k + 1)) = _
    rw [if_neg (fun z => hn (by rw [z]; exact List.mem_cons_self)), iO_no (fun z => hn (List.mem_cons_of_mem _ z))]
theorem P_hintOf {h w : Int32} : PAIR k_X7_hintOf k_X8_hintOf [.int h, .int w] := by
  intro H1 H2 B hB hI
  obtain ⟨C, W, f, d, was, text, RS, SD, XS, YS, OR, o, n, t, nA, nH, nO, shn, bg, en, kd, fi, se, nu, T1, P1, T2, P2, at_, sig, fst, snd, rea, lef, top, shf, arr, goo, ord, why, son, shm, tri, trs, rfl, rfl, rx, sr, hshn, hx, ho, hn, ht, hf⟩ := hI
  obtain ⟨hw, hpx, hro⟩ := id rx
  obtain ⟨l1, l2, l3, hw0⟩ := id hw
  have bc := rC_bC (by omega) (rX_rC rx)
  have e9 : d 9 = nI nA := bc.wd.2.2.2.1
  have e50 : d 50 = nI nH := bc.wd.2.2.2.2.1
  by_cases g : q_rg h 0 (d 50 - 1) ∧ q_rg w 0 16
  · obtain ⟨h, hh, rfl⟩ := rg_ex e50 (by omega) g.1
    have lh : h < 12 := by omega
    have gq := (hin_iff hpx e50 l2).mp g.1
    obtain ⟨a, ha1, ha2⟩ := bc.wd.2.2.2.2.2.2.1 h hh
    have la : a < 10 := by omega
    have sh := sr h hh
    obtain ⟨k, hk, rfl⟩ := rg_nI (v := w) (k := 17) (by omega) (by have := (rgH (v := w) (k := 17) (by omega)).mp g.2; exact this)
    rcases (show k = 0 ∨ k = 1 ∨ k = 2 ∨ k = 3 ∨ k = 4 ∨ k = 5 ∨ k = 6 ∨ k = 7 ∨ k = 8 ∨ k = 9 ∨ k = 10 ∨ k = 11 ∨ k = 12 ∨ k = 13 ∨ k = 14 ∨ k = 15 ∨ k = 16 by omega) with rfl | rfl | rfl | rfl | rfl | rfl | rfl | rfl | rfl | rfl | rfl | rfl | rfl | rfl | rfl | rfl | rfl
    · exact ⟨_, _, _, INV_mk rx sr hshn hx ho hn ht hf, mCt_val (show gH C (nI h) 0 = dH d h 0 from gH_d (pX_rK hpx) lh 0 (by omega)) (C_X7_hintOf_0 lh gq), C_X8_hintOf_w (w := 0) lh g.1 (by omega)⟩
    · exact ⟨_, _, _, INV_mk rx sr hshn hx ho hn ht hf, mCt_val (show gH C (nI h) 1 = dH d h 1 from gH_d (pX_rK hpx) lh 1 (by omega)) (C_X7_hintOf_1 lh gq), C_X8_hintOf_w (w := 1) lh g.1 (by omega)⟩
    · exact ⟨_, _, _, INV_mk rx sr hshn hx ho hn ht hf, mCt_val (show gH C (nI h) 2 = dH d h 2 from gH_d (pX_rK hpx) lh 2 (by omega)) (C_X7_hintOf_2 lh gq), C_X8_hintOf_w (w := 2) lh g.1 (by omega)⟩
    · exact ⟨_, _, _, INV_mk rx sr hshn hx ho hn ht hf, mCt_val (show gH C (nI h) 3 = dH d h 3 from gH_d (pX_rK hpx) lh 3 (by omega)) (C_X7_hintOf_3 lh gq), C_X8_hintOf_w (w := 3) lh g.1 (by omega)⟩
    · exact ⟨_, _, _, INV_mk rx sr hshn hx ho hn ht hf, mCt_val (show gH C (nI h) 4 = dH d h 4 from gH_d (pX_rK hpx) lh 4 (by omega)) (C_X7_hintOf_4 lh gq), C_X8_hintOf_w (w := 4) lh g.1 (by omega)⟩
    · exact ⟨_, _, _, INV_mk rx sr hshn hx ho hn ht hf, mCt_val (show gH C (nI h) 5 = dH d h 5 from gH_d (pX_rK hpx) lh 5 (by omega)) (C_X7_hintOf_5 lh gq), C_X8_hintOf_w (w := 5) lh g.1 (by omega)⟩
    · exact ⟨_, _, _, INV_mk rx sr hshn hx ho hn ht hf, mCt_val (show gH C (nI h) 6 = dH d h 6 from gH_d (pX_rK hpx) lh 6 (by omega)) (C_X7_hintOf_6 lh gq), C_X8_hintOf_w (w := 6) lh g.1 (by omega)⟩
    · exact ⟨_, _, _, INV_mk rx sr hshn hx ho hn ht hf, mCt_val (show gH C (nI h) 7 = dH d h 7 from gH_d (pX_rK hpx) lh 7 (by omega)) (C_X7_hintOf_7 lh gq), C_X8_hintOf_w (w := 7) lh g.1 (by omega)⟩
    · obtain ⟨j1, j2, j3, j4, j5, j6, j7, j8, j9, j10, c2⟩ := C_X8_hintOf_8 (was := was) (sta := nI n) (text := text) (typ := nI t) (at_ := at_) (sig := sig) (fst := fst) (snd := snd) (rea := rea) (lef := lef) (top := top) (shf := shf) (arr := arr) (goo := goo) (ord := ord) (why := why) (son := son) (shn := shm) (tri := tri) (trs := trs) (d := d) lh g.1 bc.wd bc.hwi
      exact ⟨_, _, _, INV_mk rx sr hshn hx ho hn ht hf, mCt_val sh.1 (C_X7_hintOf_8 lh gq), c2⟩
    · by_cases gs : ¬ (p_all d nA nH nO).2.1 h = -1
      · have hS := sh.2.1.mpr gs
        have hsd := (p_all_sd bc.wd h).resolve_left gs
        have F := f_eqW bc.wd (wX_wD hw).2 (pX_rK hpx) hh hsd (vw := gG C 2) (vh := gG C 3) (G_2 hpx).symm (G_3 hpx).symm
        obtain ⟨j1, j2, j3, j4, j5, j6, j7, j8, j9, j10, c2⟩ := C_X8_hintOf_9 (was := was) (sta := nI n) (text := text) (typ := nI t) (at_ := at_) (sig := sig) (fst := fst) (snd := snd) (rea := rea) (lef := lef) (top := top) (shf := shf) (arr := arr) (goo := goo) (ord := ord) (why := why) (son := son) (shn := shm) (tri := tri) (trs := trs) (d := d) lh g.1 bc.wd bc.hwi gs hsd ha2 la
        exact ⟨_, _, _, INV_mk rx sr hshn hx ho hn ht hf, mCt_val rfl (C_X7_hintOf_9 lh gq hS (sh.2.2 gs).1), c2⟩
      · obtain ⟨j1, j2, j3, j4, j5, j6, j7, j8, j9, j10, c2⟩ := C_X8_hintOf_9n (was := was) (sta := nI n) (text := text) (typ := nI t) (at_ := at_) (sig := sig) (fst := fst) (snd := snd) (rea := rea) (lef := lef) (top := top) (shf := shf) (arr := arr) (goo := goo) (ord := ord) (why := why) (son := son) (shn := shm) (tri := tri) (trs := trs) (d := d) lh g.1 bc.wd bc.hwi (Decidable.not_not.mp gs)
        exact ⟨_, _, _, INV_mk rx sr hshn hx ho hn ht hf, C_X7_hintOf_9_n lh gq (fun z => gs (sh.2.1.mp z)), c2⟩
    · by_cases gs : ¬ (p_all d nA nH nO).2.1 h = -1
      · have hS := sh.2.1.mpr gs
        have hsd := (p_all_sd bc.wd h).resolve_left gs
        have F := f_eqW bc.wd (wX_wD hw).2 (pX_rK hpx) hh hsd (vw := gG C 2) (vh := gG C 3) (G_2 hpx).symm (G_3 hpx).symm
        obtain ⟨j1, j2, j3, j4, j5, j6, j7, j8, j9, j10, c2⟩ := C_X8_hintOf_10 (was := was) (sta := nI n) (text := text) (typ := nI t) (at_ := at_) (sig := sig) (fst := fst) (snd := snd) (rea := rea) (lef := lef) (top := top) (shf := shf) (arr := arr) (goo := goo) (ord := ord) (why := why) (son := son) (shn := shm) (tri := tri) (trs := trs) (d := d) lh g.1 bc.wd bc.hwi gs hsd ha2 la
        exact ⟨_, _, _, INV_mk rx sr hshn hx ho hn ht hf, mCt_val F.1 (C_X7_hintOf_10 lh gq hS (sh.2.2 gs).1), c2⟩
      · obtain ⟨j1, j2, j3, j4, j5, j6, j7, j8, j9, j10, c2⟩ := C_X8_hintOf_10n (was := was) (sta := nI n) (text := text) (typ := nI t) (at_ := at_) (sig := sig) (fst := fst) (snd := snd) (rea := rea) (lef := lef) (top := top) (shf := shf) (arr := arr) (goo := goo) (ord := ord) (why := why) (son := son) (shn := shm) (tri := tri) (trs := trs) (d := d) lh g.1 bc.wd bc.hwi (Decidable.not_not.mp gs)
        exact ⟨_, _, _, INV_mk rx sr hshn hx ho hn ht hf, C_X7_hintOf_10_n lh gq (fun z => gs (sh.2.1.mp z)), c2⟩
    · by_cases gs : ¬ (p_all d nA nH nO).2.1 h = -1
      · have hS := sh.2.1.mpr gs
        have hsd := (p_all_sd bc.wd h).resolve_left gs
        have F := f_eqW bc.wd (wX_wD hw).2 (pX_rK hpx) hh hsd (vw := gG C 2) (vh := gG C 3) (G_2 hpx).symm (G_3 hpx).symm
        obtain ⟨j1, j2, j3, j4, j5, j6, j7, j8, j9, j10, c2⟩ := C_X8_hintOf_11 (was := was) (sta := nI n) (text := text) (typ := nI t) (at_ := at_) (sig := sig) (fst := fst) (snd := snd) (rea := rea) (lef := lef) (top := top) (shf := shf) (arr := arr) (goo := goo) (ord := ord) (why := why) (son := son) (shn := shm) (tri := tri) (trs := trs) (d := d) lh g.1 bc.wd bc.hwi gs hsd ha2 la
        exact ⟨_, _, _, INV_mk rx sr hshn hx ho hn ht hf, mCt_val F.2.1 (C_X7_hintOf_11 lh gq hS (sh.2.2 gs).1), c2⟩
      · obtain ⟨j1, j2, j3, j4, j5, j6, j7, j8, j9, j10, c2⟩ := C_X8_hintOf_11n (was := was) (sta := nI n) (text := text) (typ := nI t) (at_ := at_) (sig := sig) (fst := fst) (snd := snd) (rea := rea) (lef := lef) (top := top) (shf := shf) (arr := arr) (goo := goo) (ord := ord) (why := why) (son := son) (shn := shm) (tri := tri) (trs := trs) (d := d) lh g.1 bc.wd bc.hwi (Decidable.not_not.mp gs)
        exact ⟨_, _, _, INV_mk rx sr hshn hx ho hn ht hf, C_X7_hintOf_11_n lh gq (fun z => gs (sh.2.1.mp z)), c2⟩
    · by_cases gs : ¬ (p_all d nA nH nO).2.1 h = -1
      · have hS := sh.2.1.mpr gs
        have hsd := (p_all_sd bc.wd h).resolve_left gs
        have F := f_eqW bc.wd (wX_wD hw).2 (pX_rK hpx) hh hsd (vw := gG C 2) (vh := gG C 3) (G_2 hpx).symm (G_3 hpx).symm
        obtain ⟨j1, j2, j3, j4, j5, j6, j7, j8, j9, j10, c2⟩ := C_X8_hintOf_12 (was := was) (sta := nI n) (text := text) (typ := nI t) (at_ := at_) (sig := sig) (fst := fst) (snd := snd) (rea := rea) (lef := lef) (top := top) (shf := shf) (arr := arr) (goo := goo) (ord := ord) (why := why) (son := son) (shn := shm) (tri := tri) (trs := trs) (d := d) lh g.1 bc.wd bc.hwi gs hsd ha2 la
        exact ⟨_, _, _, INV_mk rx sr hshn hx ho hn ht hf, mCt_val F.2.2.2.1 (C_X7_hintOf_12 lh gq hS (sh.2.2 gs).1), c2⟩
      · obtain ⟨j1, j2, j3, j4, j5, j6, j7, j8, j9, j10, c2⟩ := C_X8_hintOf_12n (was := was) (sta := nI n) (text := text) (typ := nI t) (at_ := at_) (sig := sig) (fst := fst) (snd := snd) (rea := rea) (lef := lef) (top := top) (shf := shf) (arr := arr) (goo := goo) (ord := ord) (why := why) (son := son) (shn := shm) (tri := tri) (trs := trs) (d := d) lh g.1 bc.wd bc.hwi (Decidable.not_not.mp gs)
        exact ⟨_, _, _, INV_mk rx sr hshn hx ho hn ht hf, C_X7_hintOf_12_n lh gq (fun z => gs (sh.2.1.mp z)), c2⟩
    · by_cases gs : ¬ (p_all d nA nH nO).2.1 h = -1
      · have hS := sh.2.1.mpr gs
        have hsd := (p_all_sd bc.wd h).resolve_left gs
        have F := f_eqW bc.wd (wX_wD hw).2 (pX_rK hpx) hh hsd (vw := gG C 2) (vh := gG C 3) (G_2 hpx).symm (G_3 hpx).symm
        obtain ⟨j1, j2, j3, j4, j5, j6, j7, j8, j9, j10, c2⟩ := C_X8_hintOf_13 (was := was) (sta := nI n) (text := text) (typ := nI t) (at_ := at_) (sig := sig) (fst := fst) (snd := snd) (rea := rea) (lef := lef) (top := top) (shf := shf) (arr := arr) (goo := goo) (ord := ord) (why := why) (son := son) (shn := shm) (tri := tri) (trs := trs) (d := d) lh g.1 bc.wd bc.hwi gs hsd ha2 la
        exact ⟨_, _, _, INV_mk rx sr hshn hx ho hn ht hf, mCt_val (b2i_eq F.2.2.2.2.1) (C_X7_hintOf_13 lh gq hS (sh.2.2 gs).1), c2⟩
      · obtain ⟨j1, j2, j3, j4, j5, j6, j7, j8, j9, j10, c2⟩ := C_X8_hintOf_13n (was := was) (sta := nI n) (text := text) (typ := nI t) (at_ := at_) (sig := sig) (fst := fst) (snd := snd) (rea := rea) (lef := lef) (top := top) (shf := shf) (arr := arr) (goo := goo) (ord := ord) (why := why) (son := son) (shn := shm) (tri := tri) (trs := trs) (d := d) lh g.1 bc.wd bc.hwi (Decidable.not_not.mp gs)
        exact ⟨_, _, _, INV_mk rx sr hshn hx ho hn ht hf, C_X7_hintOf_13_n lh gq (fun z => gs (sh.2.1.mp z)), c2⟩
    · by_cases gs : ¬ (p_all d nA nH nO).2.1 h = -1
      · have hS := sh.2.1.mpr gs
        have hsd := (p_all_sd bc.wd h).resolve_left gs
        have F := f_eqW bc.wd (wX_wD hw).2 (pX_rK hpx) hh hsd (vw := gG C 2) (vh := gG C 3) (G_2 hpx).symm (G_3 hpx).symm
        obtain ⟨j1, j2, j3, j4, j5, j6, j7, j8, j9, j10, c2⟩ := C_X8_hintOf_14 (was := was) (sta := nI n) (text := text) (typ := nI t) (at_ := at_) (sig := sig) (fst := fst) (snd := snd) (rea := rea) (lef := lef) (top := top) (shf := shf) (arr := arr) (goo := goo) (ord := ord) (why := why) (son := son) (shn := shm) (tri := tri) (trs := trs) (d := d) lh g.1 bc.wd bc.hwi gs hsd ha2 la
        exact ⟨_, _, _, INV_mk rx sr hshn hx ho hn ht hf, mCt_val F.2.2.1 (C_X7_hintOf_14 lh gq hS (sh.2.2 gs).1), c2⟩
      · obtain ⟨j1, j2, j3, j4, j5, j6, j7, j8, j9, j10, c2⟩ := C_X8_hintOf_14n (was := was) (sta := nI n) (text := text) (typ := nI t) (at_ := at_) (sig := sig) (fst := fst) (snd := snd) (rea := rea) (lef := lef) (top := top) (shf := shf) (arr := arr) (goo := goo) (ord := ord) (why := why) (son := son) (shn := shm) (tri := tri) (trs := trs) (d := d) lh g.1 bc.wd bc.hwi (Decidable.not_not.mp gs)
        exact ⟨_, _, _, INV_mk rx sr hshn hx ho hn ht hf, C_X7_hintOf_14_n lh gq (fun z => gs (sh.2.1.mp z)), c2⟩
    · have em : gH C (nI h) 9 = d (160 + h) := (gH_k C (k := 9) lh (by omega)).trans (hpx _ _ (px_M h lh))
      by_cases gm : d (160 + h) = -1
      · obtain ⟨j1, j2, j3, j4, j5, j6, j7, j8, j9, j10, c2⟩ := C_X8_hintOf_15n (was := was) (sta := nI n) (text := text) (typ := nI t) (at_ := at_) (sig := sig) (fst := fst) (snd := snd) (rea := rea) (lef := lef) (top := top) (shf := shf) (arr := arr) (goo := goo) (ord := ord) (why := why) (son := son) (shn := shm) (tri := tri) (trs := trs) (d := d) lh g.1 bc.wd bc.hwi gm
        have ev : (if gH C (nI h) 9 = -1 then (-10004 : Int32) else gH C (nI h) 9) = -10004 := by rw [em, if_pos gm]
        exact ⟨_, _, _, INV_mk rx sr hshn hx ho hn ht hf, mCt_val ev (C_X7_hintOf_15 lh gq), c2⟩
      · obtain ⟨j1, j2, j3, j4, j5, j6, j7, j8, j9, j10, c2⟩ := C_X8_hintOf_15 (was := was) (sta := nI n) (text := text) (typ := nI t) (at_ := at_) (sig := sig) (fst := fst) (snd := snd) (rea := rea) (lef := lef) (top := top) (shf := shf) (arr := arr) (goo := goo) (ord := ord) (why := why) (son := son) (shn := shm) (tri := tri) (trs := trs) (d := d) lh g.1 bc.wd bc.hwi gm
        have ev : (if gH C (nI h) 9 = -1 then (-10004 : Int32) else gH C (nI h) 9) = d (160 + h) := by rw [em, if_neg gm]
        exact ⟨_, _, _, INV_mk rx sr hshn hx ho hn ht hf, mCt_val ev (C_X7_hintOf_15 lh gq), c2⟩
    · obtain ⟨j1, j2, j3, j4, j5, j6, j7, j8, j9, j10, c2⟩ := C_X8_hintOf_16 (was := was) (sta := nI n) (text := text) (typ := nI t) (at_ := at_) (sig := sig) (fst := fst) (snd := snd) (rea := rea) (lef := lef) (top := top) (shf := shf) (arr := arr) (goo := goo) (ord := ord) (why := why) (son := son) (shn := shm) (tri := tri) (trs := trs) (d := d) lh g.1 bc.wd bc.hwi
      have ev : iif (q_open C (nI h)) (nI (tn C nH (nI h))) (-10004) = iO h (ordL d nO) 0 := by
        by_cases q : h ∈ ordL d nO
        · obtain ⟨i, hi⟩ := List.getElem?_of_mem q
          rw [iif_t ((open_iff bc.wd (by omega) hro hh).mpr q), tn_at bc.wd (pX_rK hpx) (by omega) hro hi, iO_at (ordL_nodup bc.hwi) hi, Nat.zero_add]
        · rw [iif_f (fun z => q ((open_iff bc.wd (by omega) hro hh).mp z)), iO_no q]
      exact ⟨_, _, _, INV_mk rx sr hshn hx ho hn ht hf, mCt_val ev (C_X7_hintOf_16 lh gq bc.h5 l2), c2⟩
  · exact ⟨_, _, _, INV_mk rx sr hshn hx ho hn ht hf, C_X7_hintOf_bad (fun z => g ⟨(hin_iff hpx e50 l2).mpr z.1, w16_iff.mpr z.2⟩), C_X8_hintOf_bad g⟩
