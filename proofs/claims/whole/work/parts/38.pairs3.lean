/-! PAIRS OF CALLS: questions -/
theorem mCt_val {K : mM} {as : List Value} {H H' : List mC} {r r' : Int32} (e : r = r') (h : mCt K as H (some (.int r)) H') : mCt K as H (some (.int r')) H' := e ▸ h
theorem q_mt_sym {x y w h ox oy ow oh : Int32} : q_mt x y w h ox oy ow oh ↔ q_mt ox oy ow oh x y w h := by
  unfold q_mt
  exact ⟨fun ⟨⟨a, b⟩, c, d⟩ => ⟨⟨b, a⟩, d, c⟩, fun ⟨⟨a, b⟩, c, d⟩ => ⟨⟨b, a⟩, d, c⟩⟩
theorem as_sn {C d : aF} {nA nH nO : Nat} (bc : bC C d nA nH nO) (hp : pX C d) {a : Nat} (ha : a < nA) : q_as C (nI a) ↔ q_sn d a := by
  unfold q_as q_sn
  rw [G_0 hp, G_1 hp, G_2 hp, G_3 hp, bc.hA a _ _ _ _ ha]
  exact q_mt_sym
theorem cnt_upd {on : aF} {h n : Nat} {s : Int32} (h0 : on h = -1) (hs : ¬ s = -1) (hh : h < n) : cN (fun k => ¬ upd on h s k = -1) n = cN (fun k => ¬ on k = -1) n + 1 := by
  refine cN_ins (x := h) (fun o => ?_) (fun z => z h0) n hh
  by_cases e : o = h
  · subst e; rw [upd_at]; exact ⟨fun _ => Or.inl rfl, fun _ => hs⟩
  · rw [upd_ne e]; exact ⟨Or.inr, fun z => z.resolve_left e⟩
theorem p_run_cnt {d : aF} {nA nH : Nat} : ∀ (L : List Nat) (W on : aF) (c : Nat), L.Nodup → (∀ x ∈ L, x < nH ∧ on x = -1) → c = cN (fun k => ¬ on k = -1) nH → (p_run d nA nH (W, on, nI c) L).2.2 = nI (cN (fun k => ¬ (p_run d nA nH (W, on, nI c) L).2.1 k = -1) nH)
  | [], W, on, c, _, _, hc => by
    show nI c = nI (cN (fun k => ¬ on k = -1) nH)
    rw [hc]
  | x :: L, W, on, c, hn, hL, hc => by
    obtain ⟨n1, n2⟩ := List.nodup_cons.mp hn
    obtain ⟨hx, h0⟩ := hL x List.mem_cons_self
    have e := p_step_tR (d := d) (nA := nA) (nH := nH) (W := W) (shn := nI c) h0
    have hL2 : ∀ y ∈ L, y < nH ∧ upd on x (tR d on nA nH (nI c) x).2 y = -1 := fun y hy => by
      have q := hL y (List.mem_cons_of_mem _ hy)
      have hyx : y ≠ x := fun z => by rw [z] at hy; exact n1 hy
      exact ⟨q.1, by rw [upd_ne hyx]; exact q.2⟩
    show (p_run d nA nH (p_step d nA nH (W, on, nI c) x) L).2.2 = nI (cN (fun k => ¬ (p_run d nA nH (p_step d nA nH (W, on, nI c) x) L).2.1 k = -1) nH)
    rw [e]
    by_cases g : (tR d on nA nH (nI c) x).2 = -1
    · rw [if_pos g]
      exact p_run_cnt L _ _ c n2 hL2 (by rw [g, upd_same h0]; exact hc)
    · rw [if_neg g, nI_1]
      exact p_run_cnt L _ _ (c + 1) n2 hL2 (by rw [cnt_upd h0 g hx, hc])
theorem p_all_cnt {d : aF} {nA nH nO : Nat} (hw : wD d nA nH nO) (hi : wI d nO) : (p_all d nA nH nO).2.2 = cP (fun k => ¬ (p_all d nA nH nO).2.1 k = -1) nH := by
  rw [cP_nI]
  exact p_run_cnt (ordL d nO) _ _ 0 (ordL_nodup hi) (fun x hx => ⟨ordL_mem hw hx, rfl⟩) (cN_F (fun o z => z rfl) nH).symm
theorem fT_aT {P : Nat → Prop} {d on : aF} {x y : Int32} : ∀ {m k : Nat}, k + m < 1000 → (∀ o, k ≤ o → o < k + m → (P o ↔ (¬ on o = -1 ∧ q_mt x y 1 1 (p_x d o (on o)) (p_y d o (on o)) (dH d o 1) (dH d o 2)))) → (if fT P m k < 0 then -10004 else fT P m k) = aT d on x y m k
  | 0, k, _, _ => by
    show (if (-1 : Int32) < 0 then (-10004 : Int32) else -1) = -10004
    rw [if_pos (by decide)]
  | m + 1, k, hk, h => by
    show (if iif (P k) (nI k) (fT P m (k + 1)) < 0 then -10004 else iif (P k) (nI k) (fT P m (k + 1))) = iif _ (nI k) (aT d on x y m (k + 1))
    by_cases q : P k
    · rw [iif_t q, iif_t ((h k (Nat.le_refl _) (by omega)).mp q), if_neg (nI_pos (by omega))]
    · rw [iif_f q, iif_f (fun z => q ((h k (Nat.le_refl _) (by omega)).mpr z))]
      exact fT_aT (by omega) (fun o h1 h2 => h o (by omega) (by omega))
theorem rK_v {C d : aF} {i : Nat} {v : Int32} (h : rK C d) (hi : i = 2 ∨ i = 3) : rK C (upd d i v) := by
  obtain ⟨a1, a2, a3, a4, a5, a6, a7, a8⟩ := h
  refine ⟨by rw [upd_ne (by omega)]; exact a1, by rw [upd_ne (by omega)]; exact a2, by rw [upd_ne (by omega)]; exact a3, by rw [upd_ne (by omega)]; exact a4, fun k hk => by rw [upd_ne (by omega)]; exact a5 k hk, fun a k ha hk => ?_, fun g k hg hk => ?_, fun g hg => by rw [upd_ne (by omega)]; exact a8 g hg⟩
  · unfold dA; rw [upd_ne (by omega)]; exact a6 a k ha hk
  · unfold dH; rw [upd_ne (by omega)]; exact a7 g k hg hk
theorem cF_sF {P : Nat → Prop} {d : aF} {h w : Nat} {L : List Int32} : ∀ {m k : Nat}, (∀ j, k ≤ j → j < k + m → (P j ↔ sI d h w (nI j) L)) → cF P m k = sF d h w L m k
  | 0, _, _ => rfl
  | m + 1, k, h' => by
    show iif (P k) _ _ = iif (sI d h w (nI k) L) _ _
    rw [propext (h' k (Nat.le_refl _) (by omega)), cF_sF (fun j h1 h2 => h' j (by omega) (by omega))]
theorem chr_all : ∀ j : Nat, j < 127 → ((nI j).toUInt32 % 65536).toInt32 = nI j ∧ vp_nar .char (nI j) = nI j := by decide +kernel
theorem e_room (a b c e : Int32) : a - (b + c + e) = a - b - c - e := by rw [m_shift, m_shift]
theorem P_anchorOf {v w : Int32} : PAIR k_X7_anchorOf k_X8_anchorOf [.int v, .int w] := by
  intro H1 H2 B hB hI
  obtain ⟨C, W, f, d, was, text, RS, SD, XS, YS, OR, o, n, t, nA, nH, nO, shn, bg, en, kd, fi, se, nu, T1, P1, T2, P2, at_, sig, fst, snd, rea, lef, top, shf, arr, goo, ord, why, son, shm, tri, trs, rfl, rfl, rx, sr, hshn, hx, ho, hn, ht, hf⟩ := hI
  obtain ⟨hw, hpx, hro⟩ := id rx
  obtain ⟨l1, l2, l3, hw0⟩ := id hw
  have bc := rC_bC (by omega) (rX_rC rx)
  have e9 : d 9 = nI nA := bc.wd.2.2.2.1
  have e50 : d 50 = nI nH := bc.wd.2.2.2.2.1
  by_cases g : q_rg v 0 (d 9 - 1) ∧ q_rg w 0 6
  · obtain ⟨a, ha, rfl⟩ := rg_ex e9 (by omega) g.1
    have la : a < 10 := by omega
    have gq := (anc_iff hpx e9 l1).mp g.1
    obtain ⟨k, hk, rfl⟩ := rg_nI (v := w) (k := 7) (by omega) (by have := (rgH (v := w) (k := 7) (by omega)).mp g.2; exact this)
    rcases (show k = 0 ∨ k = 1 ∨ k = 2 ∨ k = 3 ∨ k = 4 ∨ k = 5 ∨ k = 6 by omega) with rfl | rfl | rfl | rfl | rfl | rfl | rfl
    · exact ⟨_, _, _, INV_mk rx sr hshn hx ho hn ht hf, mCt_val (show gA C (nI a) 0 = dA d a 0 from gA_d (pX_rK hpx) la 0 (by omega)) (C_X7_anchorOf_0 gq), C_X8_anchorOf_w la g.1 (by omega)⟩
    · exact ⟨_, _, _, INV_mk rx sr hshn hx ho hn ht hf, mCt_val (show gA C (nI a) 1 = dA d a 1 from gA_d (pX_rK hpx) la 1 (by omega)) (C_X7_anchorOf_1 gq), C_X8_anchorOf_w la g.1 (by omega)⟩
    · exact ⟨_, _, _, INV_mk rx sr hshn hx ho hn ht hf, mCt_val (show gA C (nI a) 2 = dA d a 2 from gA_d (pX_rK hpx) la 2 (by omega)) (C_X7_anchorOf_2 gq), C_X8_anchorOf_w la g.1 (by omega)⟩
    · exact ⟨_, _, _, INV_mk rx sr hshn hx ho hn ht hf, mCt_val (show gA C (nI a) 3 = dA d a 3 from gA_d (pX_rK hpx) la 3 (by omega)) (C_X7_anchorOf_3 gq), C_X8_anchorOf_w la g.1 (by omega)⟩
    · exact ⟨_, _, _, INV_mk rx sr hshn hx ho hn ht hf, mCt_val (b2i_eq (as_sn bc hpx ha)) (C_X7_anchorOf_4 gq), C_X8_anchorOf_4 la g.1⟩
    · obtain ⟨j1, j2, j3, j4, j5, j6, j7, j8, j9, j10, c2⟩ := C_X8_anchorOf_5 (was := was) (sta := nI n) (text := text) (typ := nI t) (at_ := at_) (sig := sig) (fst := fst) (snd := snd) (rea := rea) (lef := lef) (top := top) (shf := shf) (arr := arr) (goo := goo) (ord := ord) (why := why) (son := son) (shn := shm) (tri := tri) (trs := trs) (d := d) bc.wd bc.hwi (a := a) g.1
      exact ⟨_, _, _, INV_mk rx sr hshn hx ho hn ht hf, mCt_val (cP_congr (fun o ho => by rw [show gH C (nI o) 0 = dH d o 0 from gH_d (pX_rK hpx) (by omega) 0 (by omega)])) (C_X7_anchorOf_5 gq bc.h5 l2), c2⟩
    · obtain ⟨j1, j2, j3, j4, j5, j6, j7, j8, j9, j10, c2⟩ := C_X8_anchorOf_6 (was := was) (sta := nI n) (text := text) (typ := nI t) (at_ := at_) (sig := sig) (fst := fst) (snd := snd) (rea := rea) (lef := lef) (top := top) (shf := shf) (arr := arr) (goo := goo) (ord := ord) (why := why) (son := son) (shn := shm) (tri := tri) (trs := trs) (d := d) bc.wd bc.hwi (a := a) g.1
      exact ⟨_, _, _, INV_mk rx sr hshn hx ho hn ht hf, mCt_val (cP_congr (fun o ho => by rw [show gH C (nI o) 0 = dH d o 0 from gH_d (pX_rK hpx) (by omega) 0 (by omega), (sr o ho).2.1]; exact And.comm)) (C_X7_anchorOf_6 gq bc.h5 l2), c2⟩
  · by_cases g1 : q_rg v 0 (d 9 - 1)
    · exact ⟨_, _, _, INV_mk rx sr hshn hx ho hn ht hf, C_X7_anchorOf_d ((anc_iff hpx e9 l1).mp g1) (fun z => g ⟨g1, z⟩), C_X8_anchorOf_bad g⟩
    · exact ⟨_, _, _, INV_mk rx sr hshn hx ho hn ht hf, C_X7_anchorOf_bad (fun z => g1 ((anc_iff hpx e9 l1).mpr z)), C_X8_anchorOf_bad g⟩
theorem P_count {v : Int32} : PAIR k_X7_count k_X8_count [.int v] := by
  intro H1 H2 B hB hI
  obtain ⟨C, W, f, d, was, text, RS, SD, XS, YS, OR, o, n, t, nA, nH, nO, shn, bg, en, kd, fi, se, nu, T1, P1, T2, P2, at_, sig, fst, snd, rea, lef, top, shf, arr, goo, ord, why, son, shm, tri, trs, rfl, rfl, rx, sr, hshn, hx, ho, hn, ht, hf⟩ := hI
  obtain ⟨hw, hpx, hro⟩ := id rx
  obtain ⟨l1, l2, l3, hw0⟩ := id hw
  have bc := rC_bC (by omega) (rX_rC rx)
  have e9 : d 9 = nI nA := bc.wd.2.2.2.1
  have e50 : d 50 = nI nH := bc.wd.2.2.2.2.1
  by_cases g : q_rg v 0 17
  · obtain ⟨k, hk, rfl⟩ := rg_nI (v := v) (k := 18) (by omega) (by have := (rgH (v := v) (k := 18) (by omega)).mp g; exact this)
    rcases (show k = 0 ∨ k = 1 ∨ k = 2 ∨ k = 3 ∨ k = 4 ∨ k = 5 ∨ k = 6 ∨ k = 7 ∨ k = 8 ∨ k = 9 ∨ k = 10 ∨ k = 11 ∨ k = 12 ∨ k = 13 ∨ k = 14 ∨ k = 15 ∨ k = 16 ∨ k = 17 by omega) with rfl | rfl | rfl | rfl | rfl | rfl | rfl | rfl | rfl | rfl | rfl | rfl | rfl | rfl | rfl | rfl | rfl | rfl
    · obtain ⟨j1, j2, j3, j4, j5, j6, j7, j8, j9, j10, c2⟩ := C_X8_count_0 (was := was) (sta := nI n) (text := text) (typ := nI t) (at_ := at_) (sig := sig) (fst := fst) (snd := snd) (rea := rea) (lef := lef) (top := top) (shf := shf) (arr := arr) (goo := goo) (ord := ord) (why := why) (son := son) (shn := shm) (tri := tri) (trs := trs) (d := d) bc.wd bc.hwi
      exact ⟨_, _, _, INV_mk rx sr hshn hx ho hn ht hf, mCt_val (G_0 hpx) (C_X7_count_0), c2⟩
    · obtain ⟨j1, j2, j3, j4, j5, j6, j7, j8, j9, j10, c2⟩ := C_X8_count_1 (was := was) (sta := nI n) (text := text) (typ := nI t) (at_ := at_) (sig := sig) (fst := fst) (snd := snd) (rea := rea) (lef := lef) (top := top) (shf := shf) (arr := arr) (goo := goo) (ord := ord) (why := why) (son := son) (shn := shm) (tri := tri) (trs := trs) (d := d) bc.wd bc.hwi
      exact ⟨_, _, _, INV_mk rx sr hshn hx ho hn ht hf, mCt_val (G_1 hpx) (C_X7_count_1), c2⟩
    · obtain ⟨j1, j2, j3, j4, j5, j6, j7, j8, j9, j10, c2⟩ := C_X8_count_2 (was := was) (sta := nI n) (text := text) (typ := nI t) (at_ := at_) (sig := sig) (fst := fst) (snd := snd) (rea := rea) (lef := lef) (top := top) (shf := shf) (arr := arr) (goo := goo) (ord := ord) (why := why) (son := son) (shn := shm) (tri := tri) (trs := trs) (d := d) bc.wd bc.hwi
      exact ⟨_, _, _, INV_mk rx sr hshn hx ho hn ht hf, mCt_val (G_2 hpx) (C_X7_count_2), c2⟩
    · obtain ⟨j1, j2, j3, j4, j5, j6, j7, j8, j9, j10, c2⟩ := C_X8_count_3 (was := was) (sta := nI n) (text := text) (typ := nI t) (at_ := at_) (sig := sig) (fst := fst) (snd := snd) (rea := rea) (lef := lef) (top := top) (shf := shf) (arr := arr) (goo := goo) (ord := ord) (why := why) (son := son) (shn := shm) (tri := tri) (trs := trs) (d := d) bc.wd bc.hwi
      exact ⟨_, _, _, INV_mk rx sr hshn hx ho hn ht hf, mCt_val (G_3 hpx) (C_X7_count_3), c2⟩
    · obtain ⟨j1, j2, j3, j4, j5, j6, j7, j8, j9, j10, c2⟩ := C_X8_count_4 (was := was) (sta := nI n) (text := text) (typ := nI t) (at_ := at_) (sig := sig) (fst := fst) (snd := snd) (rea := rea) (lef := lef) (top := top) (shf := shf) (arr := arr) (goo := goo) (ord := ord) (why := why) (son := son) (shn := shm) (tri := tri) (trs := trs) (d := d) bc.wd bc.hwi
      exact ⟨_, _, _, INV_mk rx sr hshn hx ho hn ht hf, mCt_val (G_4 hpx) (C_X7_count_4), c2⟩
    · obtain ⟨j1, j2, j3, j4, j5, j6, j7, j8, j9, j10, c2⟩ := C_X8_count_5 (was := was) (sta := nI n) (text := text) (typ := nI t) (at_ := at_) (sig := sig) (fst := fst) (snd := snd) (rea := rea) (lef := lef) (top := top) (shf := shf) (arr := arr) (goo := goo) (ord := ord) (why := why) (son := son) (shn := shm) (tri := tri) (trs := trs) (d := d) bc.wd bc.hwi
      exact ⟨_, _, _, INV_mk rx sr hshn hx ho hn ht hf, mCt_val (G_5 hpx) (C_X7_count_5), c2⟩
    · obtain ⟨j1, j2, j3, j4, j5, j6, j7, j8, j9, j10, c2⟩ := C_X8_count_6 (was := was) (sta := nI n) (text := text) (typ := nI t) (at_ := at_) (sig := sig) (fst := fst) (snd := snd) (rea := rea) (lef := lef) (top := top) (shf := shf) (arr := arr) (goo := goo) (ord := ord) (why := why) (son := son) (shn := shm) (tri := tri) (trs := trs) (d := d) bc.wd bc.hwi
      exact ⟨_, _, _, INV_mk rx sr hshn hx ho hn ht hf, mCt_val (by rw [cP_nI, bc.hno]; exact bc.wd.2.2.2.2.2.1.symm) (C_X7_count_6 bc.h5 l2), c2⟩
    · obtain ⟨j1, j2, j3, j4, j5, j6, j7, j8, j9, j10, c2⟩ := C_X8_count_7 (was := was) (sta := nI n) (text := text) (typ := nI t) (at_ := at_) (sig := sig) (fst := fst) (snd := snd) (rea := rea) (lef := lef) (top := top) (shf := shf) (arr := arr) (goo := goo) (ord := ord) (why := why) (son := son) (shn := shm) (tri := tri) (trs := trs) (d := d) bc.wd bc.hwi
      exact ⟨_, _, _, INV_mk rx sr hshn hx ho hn ht hf, mCt_val hshn (C_X7_count_7), c2⟩
    · obtain ⟨j1, j2, j3, j4, j5, j6, j7, j8, j9, j10, c2⟩ := C_X8_count_8 (was := was) (sta := nI n) (text := text) (typ := nI t) (at_ := at_) (sig := sig) (fst := fst) (snd := snd) (rea := rea) (lef := lef) (top := top) (shf := shf) (arr := arr) (goo := goo) (ord := ord) (why := why) (son := son) (shn := shm) (tri := tri) (trs := trs) (d := d) bc.wd bc.hwi
      exact ⟨_, _, _, INV_mk rx sr hshn hx ho hn ht hf, mCt_val (cP_congr (fun o ho => by rw [show gH C (nI o) 9 = d (160 + o) from (gH_k C (k := 9) (by omega) (by omega)).trans (hpx _ _ (px_M o (by omega)))])) (C_X7_count_8 bc.h5 l2), c2⟩
    · obtain ⟨j1, j2, j3, j4, j5, j6, j7, j8, j9, j10, c2⟩ := C_X8_count_9 (was := was) (sta := nI n) (text := text) (typ := nI t) (at_ := at_) (sig := sig) (fst := fst) (snd := snd) (rea := rea) (lef := lef) (top := top) (shf := shf) (arr := arr) (goo := goo) (ord := ord) (why := why) (son := son) (shn := shm) (tri := tri) (trs := trs) (d := d) bc.wd bc.hwi
      exact ⟨_, _, _, INV_mk rx sr hshn hx ho hn ht hf, mCt_val rfl (C_X7_count_9), c2⟩
    · obtain ⟨j1, j2, j3, j4, j5, j6, j7, j8, j9, j10, c2⟩ := C_X8_count_10 (was := was) (sta := nI n) (text := text) (typ := nI t) (at_ := at_) (sig := sig) (fst := fst) (snd := snd) (rea := rea) (lef := lef) (top := top) (shf := shf) (arr := arr) (goo := goo) (ord := ord) (why := why) (son := son) (shn := shm) (tri := tri) (trs := trs) (d := d) bc.wd bc.hwi
      exact ⟨_, _, _, INV_mk rx sr hshn hx ho hn ht hf, mCt_val rfl (C_X7_count_10), c2⟩
    · obtain ⟨j1, j2, j3, j4, j5, j6, j7, j8, j9, j10, c2⟩ := C_X8_count_11 (was := was) (sta := nI n) (text := text) (typ := nI t) (at_ := at_) (sig := sig) (fst := fst) (snd := snd) (rea := rea) (lef := lef) (top := top) (shf := shf) (arr := arr) (goo := goo) (ord := ord) (why := why) (son := son) (shn := shm) (tri := tri) (trs := trs) (d := d) bc.wd bc.hwi
      exact ⟨_, _, _, INV_mk rx sr hshn hx ho hn ht hf, mCt_val (show gS C 0 = d 4 from gS_d (pX_rK hpx) 0 (by omega)) (C_X7_count_11), c2⟩
    · obtain ⟨j1, j2, j3, j4, j5, j6, j7, j8, j9, j10, c2⟩ := C_X8_count_12 (was := was) (sta := nI n) (text := text) (typ := nI t) (at_ := at_) (sig := sig) (fst := fst) (snd := snd) (rea := rea) (lef := lef) (top := top) (shf := shf) (arr := arr) (goo := goo) (ord := ord) (why := why) (son := son) (shn := shm) (tri := tri) (trs := trs) (d := d) bc.wd bc.hwi
      exact ⟨_, _, _, INV_mk rx sr hshn hx ho hn ht hf, mCt_val (show gS C 1 = d 5 from gS_d (pX_rK hpx) 1 (by omega)) (C_X7_count_12), c2⟩
    · obtain ⟨j1, j2, j3, j4, j5, j6, j7, j8, j9, j10, c2⟩ := C_X8_count_13 (was := was) (sta := nI n) (text := text) (typ := nI t) (at_ := at_) (sig := sig) (fst := fst) (snd := snd) (rea := rea) (lef := lef) (top := top) (shf := shf) (arr := arr) (goo := goo) (ord := ord) (why := why) (son := son) (shn := shm) (tri := tri) (trs := trs) (d := d) bc.wd bc.hwi
      exact ⟨_, _, _, INV_mk rx sr hshn hx ho hn ht hf, mCt_val (show gS C 2 = d 6 from gS_d (pX_rK hpx) 2 (by omega)) (C_X7_count_13), c2⟩
    · obtain ⟨j1, j2, j3, j4, j5, j6, j7, j8, j9, j10, c2⟩ := C_X8_count_14 (was := was) (sta := nI n) (text := text) (typ := nI t) (at_ := at_) (sig := sig) (fst := fst) (snd := snd) (rea := rea) (lef := lef) (top := top) (shf := shf) (arr := arr) (goo := goo) (ord := ord) (why := why) (son := son) (shn := shm) (tri := tri) (trs := trs) (d := d) bc.wd bc.hwi
      exact ⟨_, _, _, INV_mk rx sr hshn hx ho hn ht hf, mCt_val (show gS C 3 = d 7 from gS_d (pX_rK hpx) 3 (by omega)) (C_X7_count_14), c2⟩
    · obtain ⟨j1, j2, j3, j4, j5, j6, j7, j8, j9, j10, c2⟩ := C_X8_count_15 (was := was) (sta := nI n) (text := text) (typ := nI t) (at_ := at_) (sig := sig) (fst := fst) (snd := snd) (rea := rea) (lef := lef) (top := top) (shf := shf) (arr := arr) (goo := goo) (ord := ord) (why := why) (son := son) (shn := shm) (tri := tri) (trs := trs) (d := d) bc.wd bc.hwi
      exact ⟨_, _, _, INV_mk rx sr hshn hx ho hn ht hf, mCt_val (show gS C 4 = d 8 from gS_d (pX_rK hpx) 4 (by omega)) (C_X7_count_15), c2⟩
    · obtain ⟨j1, j2, j3, j4, j5, j6, j7, j8, j9, j10, c2⟩ := C_X8_count_16 (was := was) (sta := nI n) (text := text) (typ := nI t) (at_ := at_) (sig := sig) (fst := fst) (snd := snd) (rea := rea) (lef := lef) (top := top) (shf := shf) (arr := arr) (goo := goo) (ord := ord) (why := why) (son := son) (shn := shm) (tri := tri) (trs := trs) (d := d) bc.wd bc.hwi
      exact ⟨_, _, _, INV_mk rx sr hshn hx ho hn ht hf, mCt_val (by rw [cS_congr (fun o ho => (sr o ho).2.1) (fun o ho => by rw [bc.hW o ho, bc.hT o ho])]) (C_X7_count_16 bc.h5 l2), c2⟩
    · obtain ⟨j1, j2, j3, j4, j5, j6, j7, j8, j9, j10, c2⟩ := C_X8_count_17 (was := was) (sta := nI n) (text := text) (typ := nI t) (at_ := at_) (sig := sig) (fst := fst) (snd := snd) (rea := rea) (lef := lef) (top := top) (shf := shf) (arr := arr) (goo := goo) (ord := ord) (why := why) (son := son) (shn := shm) (tri := tri) (trs := trs) (d := d) bc.wd bc.hwi
      exact ⟨_, _, _, INV_mk rx sr hshn hx ho hn ht hf, mCt_val (hshn.trans (p_all_cnt bc.wd bc.hwi)) (C_X7_count_17), c2⟩
  · obtain ⟨j1, j2, j3, j4, j5, j6, j7, j8, j9, j10, c2⟩ := C_X8_count_bad (was := was) (sta := nI n) (text := text) (typ := nI t) (at_ := at_) (sig := sig) (fst := fst) (snd := snd) (rea := rea) (lef := lef) (top := top) (shf := shf) (arr := arr) (goo := goo) (ord := ord) (why := why) (son := son) (shn := shm) (tri := tri) (trs := trs) (d := d) bc.wd bc.hwi g
    exact ⟨_, _, _, INV_mk rx sr hshn hx ho hn ht hf, C_X7_count_bad g, c2⟩
theorem P_at {x y : Int32} : PAIR k_X7_at k_X8_at [.int x, .int y] := by
  intro H1 H2 B hB hI
  obtain ⟨C, W, f, d, was, text, RS, SD, XS, YS, OR, o, n, t, nA, nH, nO, shn, bg, en, kd, fi, se, nu, T1, P1, T2, P2, at_, sig, fst, snd, rea, lef, top, shf, arr, goo, ord, why, son, shm, tri, trs, rfl, rfl, rx, sr, hshn, hx, ho, hn, ht, hf⟩ := hI
  obtain ⟨hw, hpx, hro⟩ := id rx
  obtain ⟨l1, l2, l3, hw0⟩ := id hw
  have bc := rC_bC (by omega) (rX_rC rx)
  have e9 : d 9 = nI nA := bc.wd.2.2.2.1
  have e50 : d 50 = nI nH := bc.wd.2.2.2.2.1
  by_cases g : q_rg x (-3000) 3000 ∧ q_rg y (-3000) 3000
  · have hsd := p_all_sd bc.wd
    obtain ⟨j1, j2, j3, j4, j5, j6, j7, j8, j9, j10, c2⟩ := C_X8_at (was := was) (sta := nI n) (text := text) (typ := nI t) (at_ := at_) (sig := sig) (fst := fst) (snd := snd) (rea := rea) (lef := lef) (top := top) (shf := shf) (arr := arr) (goo := goo) (ord := ord) (why := why) (son := son) (shn := shm) (tri := tri) (trs := trs) (d := d) bc.wd bc.hwi (fun o _ => hsd o) g.1 g.2
    exact ⟨_, _, _, INV_mk rx sr hshn hx ho hn ht hf, mCt_val (fT_aT (by omega) (fun o _ ho => mP_iff bc sr (by omega))) (C_X7_at g.1 g.2 bc.h5 l2), c2⟩
  · exact ⟨_, _, _, INV_mk rx sr hshn hx ho hn ht hf, C_X7_at_bad g, C_X8_at_bad g⟩
theorem P_room {h s : Int32} : PAIR k_X7_room k_X8_room [.int h, .int s] := by
  intro H1 H2 B hB hI
  obtain ⟨C, W, f, d, was, text, RS, SD, XS, YS, OR, o, n, t, nA, nH, nO, shn, bg, en, kd, fi, se, nu, T1, P1, T2, P2, at_, sig, fst, snd, rea, lef, top, shf, arr, goo, ord, why, son, shm, tri, trs, rfl, rfl, rx, sr, hshn, hx, ho, hn, ht, hf⟩ := hI
  obtain ⟨hw, hpx, hro⟩ := id rx
  obtain ⟨l1, l2, l3, hw0⟩ := id hw
  have bc := rC_bC (by omega) (rX_rC rx)
  have e9 : d 9 = nI nA := bc.wd.2.2.2.1
  have e50 : d 50 = nI nH := bc.wd.2.2.2.2.1
  by_cases g : q_rg h 0 (d 50 - 1) ∧ q_rg s 0 3
  · obtain ⟨h, hh, rfl⟩ := rg_ex e50 (by omega) g.1
    have lh : h < 12 := by omega
    have gq := (hin_iff hpx e50 l2).mp g.1
    obtain ⟨a, ha1, ha2⟩ := bc.wd.2.2.2.2.2.2.1 h hh
    have la : a < 10 := by omega
    have g0 : gH C (nI h) 0 = nI a := (gH_d (pX_rK hpx) lh 0 (by omega)).trans ha2
    have k0 : gA C (nI a) 0 = dA d a 0 := gA_d (pX_rK hpx) la 0 (by omega)
    have k1 : gA C (nI a) 1 = dA d a 1 := gA_d (pX_rK hpx) la 1 (by omega)
    have k2 : gA C (nI a) 2 = dA d a 2 := gA_d (pX_rK hpx) la 2 (by omega)
    have k3 : gA C (nI a) 3 = dA d a 3 := gA_d (pX_rK hpx) la 3 (by omega)
    have s0 : gS C 0 = d 4 := gS_d (pX_rK hpx) 0 (by omega)
    obtain ⟨s', hs', rfl⟩ := rg_nI (v := s) (k := 4) (by omega) (side_iff.mp g.2)
    rcases (show s' = 0 ∨ s' = 1 ∨ s' = 2 ∨ s' = 3 by omega) with rfl | rfl | rfl | rfl
    · have er : v_edge C (gH C (nI h) 0) 0 - gG C 1 = dA d a 1 - d 4 - d 1 := by
        unfold v_edge
        simp only [g0, iif_lv0, iif_lv1, iif_lv2, iif_lv3, iif_bf0, iif_bf1, iif_bf2, iif_bf3, k0, k1, k2, k3, s0, G_0 hpx, G_1 hpx, G_2 hpx, G_3 hpx]
      exact ⟨_, _, _, INV_mk rx sr hshn hx ho hn ht hf, mCt_val er (C_X7_room_0 gq), C_X8_room_0 lh g.1 ha2 la⟩
    · have er : gG C 0 + gG C 2 - v_edge C (gH C (nI h) 0) 1 = d 0 + d 2 - dA d a 0 - dA d a 2 - d 4 := by
        unfold v_edge
        simp only [g0, iif_lv0, iif_lv1, iif_lv2, iif_lv3, iif_bf0, iif_bf1, iif_bf2, iif_bf3, k0, k1, k2, k3, s0, G_0 hpx, G_1 hpx, G_2 hpx, G_3 hpx]
        rw [e_room]
      exact ⟨_, _, _, INV_mk rx sr hshn hx ho hn ht hf, mCt_val er (C_X7_room_1 gq), C_X8_room_1 lh g.1 ha2 la⟩
    · have er : gG C 1 + gG C 3 - v_edge C (gH C (nI h) 0) 2 = d 1 + d 3 - dA d a 1 - dA d a 3 - d 4 := by
        unfold v_edge
        simp only [g0, iif_lv0, iif_lv1, iif_lv2, iif_lv3, iif_bf0, iif_bf1, iif_bf2, iif_bf3, k0, k1, k2, k3, s0, G_0 hpx, G_1 hpx, G_2 hpx, G_3 hpx]
        rw [e_room]
      exact ⟨_, _, _, INV_mk rx sr hshn hx ho hn ht hf, mCt_val er (C_X7_room_2 gq), C_X8_room_2 lh g.1 ha2 la⟩
    · have er : v_edge C (gH C (nI h) 0) 3 - gG C 0 = dA d a 0 - d 4 - d 0 := by
        unfold v_edge
        simp only [g0, iif_lv0, iif_lv1, iif_lv2, iif_lv3, iif_bf0, iif_bf1, iif_bf2, iif_bf3, k0, k1, k2, k3, s0, G_0 hpx, G_1 hpx, G_2 hpx, G_3 hpx]
      exact ⟨_, _, _, INV_mk rx sr hshn hx ho hn ht hf, mCt_val er (C_X7_room_3 gq), C_X8_room_3 lh g.1 ha2 la⟩
  · exact ⟨_, _, _, INV_mk rx sr hshn hx ho hn ht hf, C_X7_room_bad (fun z => g ⟨(hin_iff hpx e50 l2).mpr z.1, side_iff.mpr z.2⟩), C_X8_room_bad g⟩
theorem P_ifOn {h s w : Int32} : PAIR k_X7_ifOn k_X8_ifOn [.int h, .int s, .int w] := by
  intro H1 H2 B hB hI
  obtain ⟨C, W, f, d, was, text, RS, SD, XS, YS, OR, o, n, t, nA, nH, nO, shn, bg, en, kd, fi, se, nu, T1, P1, T2, P2, at_, sig, fst, snd, rea, lef, top, shf, arr, goo, ord, why, son, shm, tri, trs, rfl, rfl, rx, sr, hshn, hx, ho, hn, ht, hf⟩ := hI
  obtain ⟨hw, hpx, hro⟩ := id rx
  obtain ⟨l1, l2, l3, hw0⟩ := id hw
  have bc := rC_bC (by omega) (rX_rC rx)
  have e9 : d 9 = nI nA := bc.wd.2.2.2.1
  have e50 : d 50 = nI nH := bc.wd.2.2.2.2.1
  by_cases g : q_rg h 0 (d 50 - 1) ∧ q_rg s 0 3 ∧ q_rg w 0 4
  · obtain ⟨h, hh, rfl⟩ := rg_ex e50 (by omega) g.1
    have lh : h < 12 := by omega
    have gq := (hin_iff hpx e50 l2).mp g.1
    obtain ⟨a, ha1, ha2⟩ := bc.wd.2.2.2.2.2.2.1 h hh
    have la : a < 10 := by omega
    have hs := side_sd g.2.1
    have F := f_eqW bc.wd (wX_wD hw).2 (pX_rK hpx) hh hs (vw := gG C 2) (vh := gG C 3) (G_2 hpx).symm (G_3 hpx).symm
    obtain ⟨k, hk, rfl⟩ := rg_nI (v := w) (k := 5) (by omega) (by have := (rgH (v := w) (k := 5) (by omega)).mp g.2.2; exact this)
    rcases (show k = 0 ∨ k = 1 ∨ k = 2 ∨ k = 3 ∨ k = 4 by omega) with rfl | rfl | rfl | rfl | rfl
    · exact ⟨_, _, _, INV_mk rx sr hshn hx ho hn ht hf, mCt_val (b2i_eq F.2.2.2.2.2) (C_X7_ifOn_0 gq (side_iff.mp g.2.1)), C_X8_ifOn_0 lh g.1 hs g.2.1 ha2 la⟩
    · exact ⟨_, _, _, INV_mk rx sr hshn hx ho hn ht hf, mCt_val F.1 (C_X7_ifOn_1 gq (side_iff.mp g.2.1)), C_X8_ifOn_1 lh g.1 hs g.2.1 ha2 la⟩
    · exact ⟨_, _, _, INV_mk rx sr hshn hx ho hn ht hf, mCt_val F.2.1 (C_X7_ifOn_2 gq (side_iff.mp g.2.1)), C_X8_ifOn_2 lh g.1 hs g.2.1 ha2 la⟩
    · exact ⟨_, _, _, INV_mk rx sr hshn hx ho hn ht hf, mCt_val F.2.2.1 (C_X7_ifOn_3 gq (side_iff.mp g.2.1)), C_X8_ifOn_3 lh g.1 hs g.2.1 ha2 la⟩
    · exact ⟨_, _, _, INV_mk rx sr hshn hx ho hn ht hf, mCt_val F.2.2.2.1 (C_X7_ifOn_4 gq (side_iff.mp g.2.1)), C_X8_ifOn_4 lh g.1 hs g.2.1 ha2 la⟩
  · by_cases g1 : q_rg h 0 (d 50 - 1) ∧ q_rg s 0 3
    · exact ⟨_, _, _, INV_mk rx sr hshn hx ho hn ht hf, C_X7_ifOn_d ((hin_iff hpx e50 l2).mp g1.1) (side_iff.mp g1.2) (fun z => g ⟨g1.1, g1.2, z⟩), C_X8_ifOn_bad g⟩
    · exact ⟨_, _, _, INV_mk rx sr hshn hx ho hn ht hf, C_X7_ifOn_bad (fun z => g1 ⟨(hin_iff hpx e50 l2).mpr z.1, side_iff.mpr z.2⟩), C_X8_ifOn_bad g⟩
theorem w01_iff {w : Int32} : q_rg w 0 1 ↔ (¬ w < 0 ∧ w ≤ 1) := by unfold q_rg; rw [Int32.not_lt (a := 1)]
theorem P_sizeFor {h w : Int32} : PAIR k_X7_sizeFor k_X8_sizeFor [.int h, .int w] := by
  intro H1 H2 B hB hI
  obtain ⟨C, W, f, d, was, text, RS, SD, XS, YS, OR, o, n, t, nA, nH, nO, shn, bg, en, kd, fi, se, nu, T1, P1, T2, P2, at_, sig, fst, snd, rea, lef, top, shf, arr, goo, ord, why, son, shm, tri, trs, rfl, rfl, rx, sr, hshn, hx, ho, hn, ht, hf⟩ := hI
  obtain ⟨hw, hpx, hro⟩ := id rx
  obtain ⟨l1, l2, l3, hw0⟩ := id hw
  have bc := rC_bC (by omega) (rX_rC rx)
  have e9 : d 9 = nI nA := bc.wd.2.2.2.1
  have e50 : d 50 = nI nH := bc.wd.2.2.2.2.1
  by_cases g : q_rg h 0 (d 50 - 1) ∧ q_rg w 0 1
  · obtain ⟨h, hh, rfl⟩ := rg_ex e50 (by omega) g.1
    have lh : h < 12 := by omega
    have gq := (hin_iff hpx e50 l2).mp g.1
    obtain ⟨k, hk, rfl⟩ := rg_nI (v := w) (k := 2) (by omega) (by have := (rgH (v := w) (k := 2) (by omega)).mp g.2; exact this)
    have hLs := tryL_sd (bc.wd.2.2.2.2.2.2.2.1 h hh) (bc.wd.2.2.2.2.2.2.2.2.1 h hh)
    rcases (show k = 0 ∨ k = 1 by omega) with rfl | rfl
    · have es : cF (fun j => ∃ s, s ∈ tryL d h ∧ f_in C (nI h) s (nI j) (gG C 3)) 381 20 = sF d h 0 (tryL d h) 381 20 := cF_sF (fun j j1 j2 => by
        have w2 := wX_upd (i := 2 + 0) (v := nI j) hw (okc_v23 (k := 0) l1 l2 l3 (by omega) ⟨by rw [nI_toInt (by omega)]; omega, by rw [nI_toInt (by omega)]; omega⟩)
        have key := fun (s : Int32) (hs : s ∈ tryL d h) => (f_eqW (wX_wD w2).1 (wX_wD w2).2 (rK_v (pX_rK hpx) (i := 2 + 0) (v := nI j) (by omega)) hh (hLs s hs) (vw := (nI j)) (vh := (gG C 3)) (upd_at _ _ _) (((upd_ne (by omega)).trans (G_3 hpx).symm))).2.2.2.2.2
        exact ⟨fun ⟨s, s1, s2⟩ => ⟨s, s1, (key s s1).mp s2⟩, fun ⟨s, s1, s2⟩ => ⟨s, s1, (key s s1).mpr s2⟩⟩)
      obtain ⟨P9, c1⟩ := C_X7_sizeFor_0 (C := C) (W := W) (o := o) (n := n) (RS := RS) (SD := SD) (XS := XS) (YS := YS) (OR := OR) (shn := shn) (T1 := T1) (P1 := P1) (Od := (f, nI t, bg, en, kd, fi, se, nu)) (T2 := T2) (P2 := P2) gq (bc.hL h hh)
      obtain ⟨j1, j2, j3, j4, j5, j6, j7, c2⟩ := C_X8_sizeFor (was := was) (sta := nI n) (text := text) (typ := nI t) (at_ := at_) (sig := sig) (fst := fst) (snd := snd) (rea := rea) (lef := lef) (top := top) (shf := shf) (arr := arr) (goo := goo) (ord := ord) (why := why) (son := son) (shn := shm) (tri := tri) (trs := trs) (d := d) bc.wd hh (w := 0) (by omega) g.1 g.2
      exact ⟨_, _, _, INV_mk rx sr hshn hx ho hn ht hf, mCt_val es c1, c2⟩
    · have es : cF (fun j => ∃ s, s ∈ tryL d h ∧ f_in C (nI h) s (gG C 2) (nI j)) 381 20 = sF d h 1 (tryL d h) 381 20 := cF_sF (fun j j1 j2 => by
        have w2 := wX_upd (i := 2 + 1) (v := nI j) hw (okc_v23 (k := 1) l1 l2 l3 (by omega) ⟨by rw [nI_toInt (by omega)]; omega, by rw [nI_toInt (by omega)]; omega⟩)
        have key := fun (s : Int32) (hs : s ∈ tryL d h) => (f_eqW (wX_wD w2).1 (wX_wD w2).2 (rK_v (pX_rK hpx) (i := 2 + 1) (v := nI j) (by omega)) hh (hLs s hs) (vw := (gG C 2)) (vh := (nI j)) (((upd_ne (by omega)).trans (G_2 hpx).symm)) (upd_at _ _ _)).2.2.2.2.2
        exact ⟨fun ⟨s, s1, s2⟩ => ⟨s, s1, (key s s1).mp s2⟩, fun ⟨s, s1, s2⟩ => ⟨s, s1, (key s s1).mpr s2⟩⟩)
      obtain ⟨P9, c1⟩ := C_X7_sizeFor_1 (C := C) (W := W) (o := o) (n := n) (RS := RS) (SD := SD) (XS := XS) (YS := YS) (OR := OR) (shn := shn) (T1 := T1) (P1 := P1) (Od := (f, nI t, bg, en, kd, fi, se, nu)) (T2 := T2) (P2 := P2) gq (bc.hL h hh)
      obtain ⟨j1, j2, j3, j4, j5, j6, j7, c2⟩ := C_X8_sizeFor (was := was) (sta := nI n) (text := text) (typ := nI t) (at_ := at_) (sig := sig) (fst := fst) (snd := snd) (rea := rea) (lef := lef) (top := top) (shf := shf) (arr := arr) (goo := goo) (ord := ord) (why := why) (son := son) (shn := shm) (tri := tri) (trs := trs) (d := d) bc.wd hh (w := 1) (by omega) g.1 g.2
      exact ⟨_, _, _, INV_mk rx sr hshn hx ho hn ht hf, mCt_val es c1, c2⟩
  · exact ⟨_, _, _, INV_mk rx sr hshn hx ho hn ht hf, C_X7_sizeFor_bad (fun z => g ⟨(hin_iff hpx e50 l2).mpr z.1, w01_iff.mpr z.2⟩), C_X8_sizeFor_bad g⟩
theorem P_type {v : Int32} : PAIR k_X7_type k_X8_type [.int v] := by
  intro H1 H2 B hB hI
  obtain ⟨C, W, f, d, was, text, RS, SD, XS, YS, OR, o, n, t, nA, nH, nO, shn, bg, en, kd, fi, se, nu, T1, P1, T2, P2, at_, sig, fst, snd, rea, lef, top, shf, arr, goo, ord, why, son, shm, tri, trs, rfl, rfl, rx, sr, hshn, hx, ho, hn, ht, hf⟩ := hI
  obtain ⟨hw, hpx, hro⟩ := id rx
  obtain ⟨l1, l2, l3, hw0⟩ := id hw
  have bc := rC_bC (by omega) (rX_rC rx)
  have e9 : d 9 = nI nA := bc.wd.2.2.2.1
  have e50 : d 50 = nI nH := bc.wd.2.2.2.2.1
  by_cases g : q_rg v 32 126
  · by_cases gt : t < 60
    · obtain ⟨j, hj, rfl⟩ := rg_nI (v := v) (k := 127) (by omega) ((rgH (v := v) (k := 127) (by omega)).mp ⟨fun z => g.1 (Int32.lt_of_lt_of_le z (by decide)), g.2⟩)
      obtain ⟨q1, q2⟩ := chr_all j hj
      have gf : ∀ i, i < t + 1 → rp 60 f (nI t) (nI j) i = upd text t (nI j) i := fun i hi => by
        rw [rp_in f _ gt (by omega)]
        by_cases e : i = t
        · subst e; rw [upd_at, upd_at]
        · rw [upd_ne e, upd_ne e]; exact hf i (by omega)
      exact ⟨_, _, _, INV_mk (t := t + 1) rx sr hshn hx ho hn (by omega) gf, C_X7_type g.1 (Int32.not_lt.mp g.2) gt, C_X8_type g gt q1 q2⟩
    · have e60 : t = 60 := by omega
      subst e60
      exact ⟨_, _, _, INV_mk rx sr hshn hx ho hn ht hf, C_X7_type_lim g.1 (Int32.not_lt.mp g.2) rfl, C_X8_type_lim g⟩
  · exact ⟨_, _, _, INV_mk rx sr hshn hx ho hn ht hf, C_X7_type_bad (fun z => g ⟨z.1, Int32.not_lt.mpr z.2⟩), C_X8_type_bad g⟩
theorem P_clearText  : PAIR k_X7_clearText k_X8_clearText [] := by
  intro H1 H2 B hB hI
  obtain ⟨C, W, f, d, was, text, RS, SD, XS, YS, OR, o, n, t, nA, nH, nO, shn, bg, en, kd, fi, se, nu, T1, P1, T2, P2, at_, sig, fst, snd, rea, lef, top, shf, arr, goo, ord, why, son, shm, tri, trs, rfl, rfl, rx, sr, hshn, hx, ho, hn, ht, hf⟩ := hI
  obtain ⟨hw, hpx, hro⟩ := id rx
  obtain ⟨l1, l2, l3, hw0⟩ := id hw
  have bc := rC_bC (by omega) (rX_rC rx)
  have e9 : d 9 = nI nA := bc.wd.2.2.2.1
  have e50 : d 50 = nI nH := bc.wd.2.2.2.2.1
  exact ⟨_, _, _, INV_mk (t := 0) rx sr hshn hx ho hn (by omega) (fun i hi => absurd hi (by omega)), C_X7_clearText, C_X8_clearText⟩
theorem xS_congr {f g : aF} {n : Nat} (h : ∀ i, i < n → f i = g i) (p : Nat) : xS f n p = xS g n p := by
  unfold xS
  split
  · rename_i q; exact h p q
  · rfl
theorem tC_congr {f g : aF} {n : Nat} (h : ∀ i, i < n → f i = g i) : ∀ m p, tC f n m p = tC g n m p
  | 0, _ => rfl
  | m + 1, p => by unfold tC; rw [xS_congr h, tC_congr h m]
theorem tV_congr {f g : aF} {n : Nat} (h : ∀ i, i < n → f i = g i) : ∀ m p a, tV f n m p a = tV g n m p a
  | 0, _, _ => rfl
  | m + 1, p, a => by unfold tV; rw [xS_congr h, tV_congr h m]
theorem tSg_congr {f g : aF} {n : Nat} (h : ∀ i, i < n → f i = g i) (p : Nat) : tSg f n p = tSg g n p := by
  unfold tSg
  rw [xS_congr h, tC_congr h, tC_congr h, tV_congr h, tV_congr h]
theorem xO_congr {f g : aF} {n : Nat} (h : ∀ i, i < n → f i = g i) (p : Nat) : xO f n p = xO g n p := by
  unfold xO
  rw [xS_congr h p, tC_congr h, tV_congr h, xS_congr h, xS_congr h (p + 1), tSg_congr h (p + 1), xS_congr h, tSg_congr h, xS_congr h]
theorem xF_congr {f g : aF} {n nH : Nat} (h : ∀ i, i < n → f i = g i) : ∀ m p, xF f n nH m p = xF g n nH m p
  | 0, _ => rfl
  | m + 1, p => by
    unfold xF xR xQ
    rw [xO_congr h p]
    simp only [xF_congr h m]
theorem P_fault {w : Int32} : PAIR k_X7_fault k_X8_fault [.int w] := by
  intro H1 H2 B hB hI
  obtain ⟨C, W, f, d, was, text, RS, SD, XS, YS, OR, o, n, t, nA, nH, nO, shn, bg, en, kd, fi, se, nu, T1, P1, T2, P2, at_, sig, fst, snd, rea, lef, top, shf, arr, goo, ord, why, son, shm, tri, trs, rfl, rfl, rx, sr, hshn, hx, ho, hn, ht, hf⟩ := hI
  obtain ⟨hw, hpx, hro⟩ := id rx
  obtain ⟨l1, l2, l3, hw0⟩ := id hw
  have bc := rC_bC (by omega) (rX_rC rx)
  have e9 : d 9 = nI nA := bc.wd.2.2.2.1
  have e50 : d 50 = nI nH := bc.wd.2.2.2.2.1
  by_cases g : q_rg w 0 1
  · obtain ⟨k, hk, rfl⟩ := rg_nI (v := w) (k := 2) (by omega) (by have := (rgH (v := w) (k := 2) (by omega)).mp g; exact this)
    have ex := xF_congr (nH := nH) hf 60 0
    rcases (show k = 0 ∨ k = 1 by omega) with rfl | rfl
    · obtain ⟨⟨o1, o2, o3, o4, o5, o6, o7, o8⟩, c1, q1, q2⟩ := C_X7_fault_0 (C := C) (Hs := (W, nI o, nI n)) (Sw := (RS, SD, XS, YS, OR, shn)) (T1 := T1) (P1 := P1) (T2 := T2) (P2 := P2) (f := f) (n := t) (bg := bg) (en := en) (kd := kd) (fi := fi) (se := se) (nu := nu) ht bc.h5
      have q1 : o1 = f := q1
      have q2 : o2 = nI t := q2
      rw [q1, q2] at c1
      obtain ⟨j1, j2, j3, j4, j5, c2⟩ := C_X8_fault_0 (was := was) (sta := nI n) (text := text) (at_ := at_) (sig := sig) (fst := fst) (snd := snd) (rea := rea) (lef := lef) (top := top) (shf := shf) (arr := arr) (goo := goo) (ord := ord) (why := why) (son := son) (shn := shm) (tri := tri) (trs := trs) (d := d) (n := t) ht e50 l2
      have ev : (fP (xF f t nH 60 0)) = (fP (xF text t nH 60 0)) := by rw [ex]
      exact ⟨_, _, _, INV_mk rx sr hshn hx ho hn ht hf, mCt_val ev c1, c2⟩
    · obtain ⟨⟨o1, o2, o3, o4, o5, o6, o7, o8⟩, c1, q1, q2⟩ := C_X7_fault_1 (C := C) (Hs := (W, nI o, nI n)) (Sw := (RS, SD, XS, YS, OR, shn)) (T1 := T1) (P1 := P1) (T2 := T2) (P2 := P2) (f := f) (n := t) (bg := bg) (en := en) (kd := kd) (fi := fi) (se := se) (nu := nu) ht bc.h5
      have q1 : o1 = f := q1
      have q2 : o2 = nI t := q2
      rw [q1, q2] at c1
      obtain ⟨j1, j2, j3, j4, j5, c2⟩ := C_X8_fault_1 (was := was) (sta := nI n) (text := text) (at_ := at_) (sig := sig) (fst := fst) (snd := snd) (rea := rea) (lef := lef) (top := top) (shf := shf) (arr := arr) (goo := goo) (ord := ord) (why := why) (son := son) (shn := shm) (tri := tri) (trs := trs) (d := d) (n := t) ht e50 l2
      have ev : (if xF f t nH 60 0 = none then (-10004 : Int32) else fR (xF f t nH 60 0)) = (if xF text t nH 60 0 = none then (-10004 : Int32) else fR (xF text t nH 60 0)) := by rw [ex]
      exact ⟨_, _, _, INV_mk rx sr hshn hx ho hn ht hf, mCt_val ev c1, c2⟩
  · exact ⟨_, _, _, INV_mk rx sr hshn hx ho hn ht hf, C_X7_fault_bad (fun z => g (w01_iff.mpr z)), C_X8_fault_bad g⟩
