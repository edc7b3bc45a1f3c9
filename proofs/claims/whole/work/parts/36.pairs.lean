/-! PAIRS OF CALLS: changes of the view, of anchors, of settings -/
theorem sA_0 {C : aF} {a : Nat} {v : Int32} (ha : a < 10) : sA C (nI a) 0 v = upd C (12 + 4 * a + 0) v := sA_k (k := 0) ha (by omega)
theorem sA_1 {C : aF} {a : Nat} {v : Int32} (ha : a < 10) : sA C (nI a) 1 v = upd C (12 + 4 * a + 1) v := sA_k (k := 1) ha (by omega)
theorem sA_2 {C : aF} {a : Nat} {v : Int32} (ha : a < 10) : sA C (nI a) 2 v = upd C (12 + 4 * a + 2) v := sA_k (k := 2) ha (by omega)
theorem sA_3 {C : aF} {a : Nat} {v : Int32} (ha : a < 10) : sA C (nI a) 3 v = upd C (12 + 4 * a + 3) v := sA_k (k := 3) ha (by omega)
theorem sH_0 {C : aF} {h : Nat} {v : Int32} (hh : h < 12) : sH C (nI h) 0 v = upd C (52 + 10 * h + 0) v := sH_k (k := 0) hh (by omega)
theorem sH_1 {C : aF} {h : Nat} {v : Int32} (hh : h < 12) : sH C (nI h) 1 v = upd C (52 + 10 * h + 1) v := sH_k (k := 1) hh (by omega)
theorem sH_2 {C : aF} {h : Nat} {v : Int32} (hh : h < 12) : sH C (nI h) 2 v = upd C (52 + 10 * h + 2) v := sH_k (k := 2) hh (by omega)
theorem sH_3 {C : aF} {h : Nat} {v : Int32} (hh : h < 12) : sH C (nI h) 3 v = upd C (52 + 10 * h + 3) v := sH_k (k := 3) hh (by omega)
theorem sH_4 {C : aF} {h : Nat} {v : Int32} (hh : h < 12) : sH C (nI h) 4 v = upd C (52 + 10 * h + 4) v := sH_k (k := 4) hh (by omega)
theorem sH_5 {C : aF} {h : Nat} {v : Int32} (hh : h < 12) : sH C (nI h) 5 v = upd C (52 + 10 * h + 5) v := sH_k (k := 5) hh (by omega)
theorem sH_6 {C : aF} {h : Nat} {v : Int32} (hh : h < 12) : sH C (nI h) 6 v = upd C (52 + 10 * h + 6) v := sH_k (k := 6) hh (by omega)
theorem sH_7 {C : aF} {h : Nat} {v : Int32} (hh : h < 12) : sH C (nI h) 7 v = upd C (52 + 10 * h + 7) v := sH_k (k := 7) hh (by omega)
theorem sH_8 {C : aF} {h : Nat} {v : Int32} (hh : h < 12) : sH C (nI h) 8 v = upd C (52 + 10 * h + 8) v := sH_k (k := 8) hh (by omega)
theorem sH_9 {C : aF} {h : Nat} {v : Int32} (hh : h < 12) : sH C (nI h) 9 v = upd C (52 + 10 * h + 9) v := sH_k (k := 9) hh (by omega)
theorem sP_0 {C : aF} {v : Int32} : sP C 0 v = upd C 0 v := sP_k (k := 0) (by omega)
theorem sP_1 {C : aF} {v : Int32} : sP C 1 v = upd C 1 v := sP_k (k := 1) (by omega)
theorem sP_2 {C : aF} {v : Int32} : sP C 2 v = upd C 2 v := sP_k (k := 2) (by omega)
theorem sP_3 {C : aF} {v : Int32} : sP C 3 v = upd C 3 v := sP_k (k := 3) (by omega)
theorem sP_4 {C : aF} {v : Int32} : sP C 4 v = upd C 4 v := sP_k (k := 4) (by omega)
theorem sP_5 {C : aF} {v : Int32} : sP C 5 v = upd C 5 v := sP_k (k := 5) (by omega)
theorem sP_6 {C : aF} {v : Int32} : sP C 6 v = upd C 6 v := sP_k (k := 6) (by omega)
theorem px_A0 {a : Nat} (ha : a < 10) : px (12 + 4 * a + 0) (10 + a) := by have := px_A a 0 ha (by omega); rwa [show 10 + 10 * 0 + a = 10 + a by omega] at this
theorem px_A1 {a : Nat} (ha : a < 10) : px (12 + 4 * a + 1) (20 + a) := by have := px_A a 1 ha (by omega); rwa [show 10 + 10 * 1 + a = 20 + a by omega] at this
theorem okc_A0 {nA nH nO a : Nat} {x : Int32} (hA : nA ≤ 10) (hH : nH ≤ 12) (hO : nO ≤ 12) (ha : a < 10) (h : iR x (-1000) 1000) : okc nA nH nO (10 + a) x := by have := okc_Axy (a := a) (k := 0) hA hH hO ha (by omega) h; rwa [show 10 + 10 * 0 + a = 10 + a by omega] at this
theorem okc_A1 {nA nH nO a : Nat} {x : Int32} (hA : nA ≤ 10) (hH : nH ≤ 12) (hO : nO ≤ 12) (ha : a < 10) (h : iR x (-1000) 1000) : okc nA nH nO (20 + a) x := by have := okc_Axy (a := a) (k := 1) hA hH hO ha (by omega) h; rwa [show 10 + 10 * 1 + a = 20 + a by omega] at this
theorem G_0 {C d : aF} (h : pX C d) : gG C 0 = d 0 := (gG_k C (k := 0) (by omega)).trans (h 0 0 (px_v 0 (by omega)))
theorem G_1 {C d : aF} (h : pX C d) : gG C 1 = d 1 := (gG_k C (k := 1) (by omega)).trans (h 1 1 (px_v 1 (by omega)))
theorem G_2 {C d : aF} (h : pX C d) : gG C 2 = d 2 := (gG_k C (k := 2) (by omega)).trans (h 2 2 (px_v 2 (by omega)))
theorem G_3 {C d : aF} (h : pX C d) : gG C 3 = d 3 := (gG_k C (k := 3) (by omega)).trans (h 3 3 (px_v 3 (by omega)))
theorem G_4 {C d : aF} (h : pX C d) : gG C 4 = d 9 := (gG_k C (k := 4) (by omega)).trans (h 4 9 px_nA)
theorem G_5 {C d : aF} (h : pX C d) : gG C 5 = d 50 := (gG_k C (k := 5) (by omega)).trans (h 5 50 px_nH)
theorem cm_cs {C d : aF} (h : pX C d) {x y : Int32} : q_cm C x y ↔ q_cs d x y := by unfold q_cm q_cs; rw [G_0 h, G_1 h]; exact Iff.rfl
theorem anc_iff {C d : aF} {nA : Nat} (h : pX C d) (e : d 9 = nI nA) (l : nA ≤ 10) {v : Int32} : q_rg v 0 (d 9 - 1) ↔ q_anchor C v := by unfold q_anchor; rw [G_4 h, e]; exact rgH (by omega)
theorem hin_iff {C d : aF} {nH : Nat} (h : pX C d) (e : d 50 = nI nH) (l : nH ≤ 12) {v : Int32} : q_rg v 0 (d 50 - 1) ↔ q_hint C v := by unfold q_hint; rw [G_5 h, e]; exact rgH (by omega)
theorem rg_ex {e v : Int32} {n : Nat} (he : e = nI n) (hn : n < 2 ^ 31) (h : q_rg v 0 (e - 1)) : ∃ a, a < n ∧ v = nI a := by
  rw [he] at h
  exact rg_nI hn ((rgH hn).mp h)
theorem st_iff {w v : Int32} : q_st w v ↔ (¬ w < 0 ∧ ¬ 5 ≤ w ∧ ¬ v < (if w = 2 then (1 : Int32) else 0) ∧ v ≤ v_hs w) := by
  constructor
  · rintro (⟨rfl, h⟩ | ⟨rfl, h⟩ | ⟨rfl, h⟩ | ⟨rfl, h⟩ | ⟨rfl, h⟩) <;> exact ⟨by decide, by decide, h.1, Int32.not_lt.mp h.2⟩
  · rintro ⟨h1, h2, h3, h4⟩
    obtain ⟨k, hk, rfl⟩ := rg_nI (v := w) (k := 5) (by omega) ⟨h1, h2⟩
    have h5 := Int32.not_lt.mpr h4
    rcases (show k = 0 ∨ k = 1 ∨ k = 2 ∨ k = 3 ∨ k = 4 by omega) with rfl | rfl | rfl | rfl | rfl
    · exact Or.inl ⟨rfl, h3, h5⟩
    · exact Or.inr (Or.inl ⟨rfl, h3, h5⟩)
    · exact Or.inr (Or.inr (Or.inl ⟨rfl, h3, h5⟩))
    · exact Or.inr (Or.inr (Or.inr (Or.inl ⟨rfl, h3, h5⟩)))
    · exact Or.inr (Or.inr (Or.inr (Or.inr ⟨rfl, h3, h5⟩)))
theorem st_R {k : Nat} {v : Int32} (hk : k < 5) (h : q_st (nI k) v) : (k = 0 → iR v 0 30) ∧ (k = 1 → iR v 0 20) ∧ (k = 2 → iR v 1 6) ∧ (k = 3 ∨ k = 4 → iR v 0 1) := by
  have key : ∀ j : Nat, j < 5 → nI k = nI j → k = j := fun j hj e => (nI_eq (by omega) (by omega)).mp e
  rcases h with ⟨e, h⟩ | ⟨e, h⟩ | ⟨e, h⟩ | ⟨e, h⟩ | ⟨e, h⟩
  · have := key 0 (by omega) e; subst this; exact ⟨fun _ => iR_rg h (by decide) (by decide), fun z => by omega, fun z => by omega, fun z => by omega⟩
  · have := key 1 (by omega) e; subst this; exact ⟨fun z => by omega, fun _ => iR_rg h (by decide) (by decide), fun z => by omega, fun z => by omega⟩
  · have := key 2 (by omega) e; subst this; exact ⟨fun z => by omega, fun z => by omega, fun _ => iR_rg h (by decide) (by decide), fun z => by omega⟩
  · have := key 3 (by omega) e; subst this; exact ⟨fun z => by omega, fun z => by omega, fun z => by omega, fun _ => iR_rg h (by decide) (by decide)⟩
  · have := key 4 (by omega) e; subst this; exact ⟨fun z => by omega, fun z => by omega, fun z => by omega, fun _ => iR_rg h (by decide) (by decide)⟩
theorem P_scroll {x y : Int32} : PAIR k_X7_scroll k_X8_scroll [.int x, .int y] := by
  intro H1 H2 B hB hI
  obtain ⟨C, W, f, d, was, text, RS, SD, XS, YS, OR, o, n, t, nA, nH, nO, shn, bg, en, kd, fi, se, nu, T1, P1, T2, P2, at_, sig, fst, snd, rea, lef, top, shf, arr, goo, ord, why, son, shm, tri, trs, rfl, rfl, rx, sr, hshn, hx, ho, hn, ht, hf⟩ := hI
  obtain ⟨hw, hpx, hro⟩ := id rx
  obtain ⟨l1, l2, l3, hw0⟩ := id hw
  have bc := rC_bC (by omega) (rX_rC rx)
  have e9 : d 9 = nI nA := bc.wd.2.2.2.1
  have e50 : d 50 = nI nH := bc.wd.2.2.2.2.1
  by_cases g : q_rg x (-1000) 1000 ∧ q_rg y (-1000) 1000
  · by_cases g2 : q_cs d x y
    · have rx' : rX (upd (upd C 0 (d 0 + x)) 1 (d 1 + y)) (upd (upd d 0 (d 0 + x)) 1 (d 1 + y)) nA nH nO B := rX_pair (rX_pair rx (px_v 0 (by omega)) (okc_v01 l1 l2 l3 (by omega) (iR_rg g2.1 (by decide) (by decide)))) (px_v 1 (by omega)) (okc_v01 l1 l2 l3 (by omega) (iR_rg g2.2 (by decide) (by decide)))
      have e7 : sP (sP C 0 (gG C 0 + x)) 1 (gG (sP C 0 (gG C 0 + x)) 1 + y) = upd (upd C 0 (d 0 + x)) 1 (d 1 + y) := by rw [G_0 hpx, sP_0, show gG (upd C 0 (d 0 + x)) 1 = d 1 from (gG_k _ (k := 1) (by omega)).trans ((upd_ne (by omega)).trans (hpx 1 1 (px_v 1 (by omega))))]; exact sP_1
      have bc' := rC_bC (by omega) (rX_rC rx')
      have bc2 := bc'
      rw [← e7] at bc2
      obtain ⟨W', o', hk, ho', hn', hx'⟩ := hX_keep hx rx ho hn
      obtain ⟨R1, R2, R3, R4, R5, R6, R7, hz, c1⟩ := C_X7_scroll (Od := (f, nI t, bg, en, kd, fi, se, nu)) (T1 := T1) (P1 := P1) (T2 := T2) (P2 := P2) (RS := RS) (SD := SD) (XS := XS) (YS := YS) (OR := OR) (shn := shn) (W := W) ho hn g.1 g.2 ((cm_cs hpx).mpr g2) bc2
      rw [e7, hk] at c1
      obtain ⟨j1, j2, j3, j4, j5, j6, j7, j8, j9, j10, c2⟩ := C_X8_scroll (was := was) (text := text) (typ := nI t) (at_ := at_) (sig := sig) (fst := fst) (snd := snd) (rea := rea) (lef := lef) (top := top) (shf := shf) (arr := arr) (goo := goo) (ord := ord) (why := why) (son := son) (shn := shm) (tri := tri) (trs := trs) hn g.1 g.2 g2 bc'.wd bc'.hwi
      exact ⟨_, _, _, INV_mk rx' hz rfl hx' ho' hn' ht hf, c1, c2⟩
    · exact ⟨_, _, _, INV_mk rx sr hshn hx ho hn ht hf, C_X7_scroll_np g.1 g.2 (fun z => g2 ((cm_cs hpx).mp z)), C_X8_scroll_np g.1 g.2 g2⟩
  · exact ⟨_, _, _, INV_mk rx sr hshn hx ho hn ht hf, C_X7_scroll_bad g, C_X8_scroll_bad g⟩
theorem P_anchor {x y w h : Int32} : PAIR k_X7_anchor k_X8_anchor [.int x, .int y, .int w, .int h] := by
  intro H1 H2 B hB hI
  obtain ⟨C, W, f, d, was, text, RS, SD, XS, YS, OR, o, n, t, nA, nH, nO, shn, bg, en, kd, fi, se, nu, T1, P1, T2, P2, at_, sig, fst, snd, rea, lef, top, shf, arr, goo, ord, why, son, shm, tri, trs, rfl, rfl, rx, sr, hshn, hx, ho, hn, ht, hf⟩ := hI
  obtain ⟨hw, hpx, hro⟩ := id rx
  obtain ⟨l1, l2, l3, hw0⟩ := id hw
  have bc := rC_bC (by omega) (rX_rC rx)
  have e9 : d 9 = nI nA := bc.wd.2.2.2.1
  have e50 : d 50 = nI nH := bc.wd.2.2.2.2.1
  by_cases g : q_rg x (-1000) 1000 ∧ q_rg y (-1000) 1000 ∧ q_rg w 1 200 ∧ q_rg h 1 200
  · by_cases gA : nA < 10
    · have rx' : rX (upd (upd (upd (upd (upd C 4 (nI (nA + 1))) (12 + 4 * nA + 0) x) (12 + 4 * nA + 1) y) (12 + 4 * nA + 2) w) (12 + 4 * nA + 3) h) (upd (upd (upd (upd (upd d (10 + nA) x) (20 + nA) y) (30 + nA) w) (40 + nA) h) 9 (nI (nA + 1))) (nA + 1) nH nO B := rX_anchor rx gA (iR_rg g.1 (by decide) (by decide)) (iR_rg g.2.1 (by decide) (by decide)) (iR_rg g.2.2.1 (by decide) (by decide)) (iR_rg g.2.2.2 (by decide) (by decide))
      have e7 : sA (sA (sA (sA (sP C 4 (nI nA + 1)) (nI nA) 0 x) (nI nA) 1 y) (nI nA) 2 w) (nI nA) 3 h = upd (upd (upd (upd (upd C 4 (nI (nA + 1))) (12 + 4 * nA + 0) x) (12 + 4 * nA + 1) y) (12 + 4 * nA + 2) w) (12 + 4 * nA + 3) h := by rw [nI_1, sP_4, sA_0 gA, sA_1 gA, sA_2 gA, sA_3 gA]
      have bc' := rC_bC (by omega) (rX_rC rx')
      have bc2 := bc'
      rw [← e7] at bc2
      obtain ⟨W', o', hk, ho', hn', hx'⟩ := hX_keep hx rx ho hn
      obtain ⟨R1, R2, R3, R4, R5, R6, R7, hz, c1⟩ := C_X7_anchor (Od := (f, nI t, bg, en, kd, fi, se, nu)) (T1 := T1) (P1 := P1) (T2 := T2) (P2 := P2) (RS := RS) (SD := SD) (XS := XS) (YS := YS) (OR := OR) (shn := shn) (W := W) ho hn g.1 g.2.1 g.2.2.1 g.2.2.2 ((G_4 hpx).trans e9) gA bc2
      rw [e7, hk] at c1
      have c2 := C_X8_anchor (d := d) (was := was) (text := text) (typ := nI t) (at_ := at_) (sig := sig) (fst := fst) (snd := snd) (rea := rea) (lef := lef) (top := top) (shf := shf) (arr := arr) (goo := goo) (ord := ord) (why := why) (son := son) (shn := shm) (tri := tri) (trs := trs) hn g.1 g.2.1 g.2.2.1 g.2.2.2 e9 gA
      exact ⟨_, _, _, INV_mk rx' hz rfl hx' ho' hn' ht hf, c1, c2⟩
    · have g10 : nA = 10 := by omega
      subst g10
      exact ⟨_, _, _, INV_mk rx sr hshn hx ho hn ht hf, C_X7_anchor_lim g.1 g.2.1 g.2.2.1 g.2.2.2 ((G_4 hpx).trans e9), C_X8_anchor_lim g.1 g.2.1 g.2.2.1 g.2.2.2 e9⟩
  · exact ⟨_, _, _, INV_mk rx sr hshn hx ho hn ht hf, C_X7_anchor_bad g, C_X8_anchor_bad g⟩
theorem P_moveAnchor {v x y : Int32} : PAIR k_X7_moveAnchor k_X8_moveAnchor [.int v, .int x, .int y] := by
  intro H1 H2 B hB hI
  obtain ⟨C, W, f, d, was, text, RS, SD, XS, YS, OR, o, n, t, nA, nH, nO, shn, bg, en, kd, fi, se, nu, T1, P1, T2, P2, at_, sig, fst, snd, rea, lef, top, shf, arr, goo, ord, why, son, shm, tri, trs, rfl, rfl, rx, sr, hshn, hx, ho, hn, ht, hf⟩ := hI
  obtain ⟨hw, hpx, hro⟩ := id rx
  obtain ⟨l1, l2, l3, hw0⟩ := id hw
  have bc := rC_bC (by omega) (rX_rC rx)
  have e9 : d 9 = nI nA := bc.wd.2.2.2.1
  have e50 : d 50 = nI nH := bc.wd.2.2.2.2.1
  by_cases g : q_rg v 0 (d 9 - 1) ∧ q_rg x (-1000) 1000 ∧ q_rg y (-1000) 1000
  · obtain ⟨a, ha, rfl⟩ := rg_ex e9 (by omega) g.1
    have la : a < 10 := by omega
    have rx' : rX (upd (upd C (12 + 4 * a + 0) x) (12 + 4 * a + 1) y) (upd (upd d (10 + a) x) (20 + a) y) nA nH nO B := rX_pair (rX_pair rx (px_A0 la) (okc_A0 l1 l2 l3 la (iR_rg g.2.1 (by decide) (by decide)))) (px_A1 la) (okc_A1 l1 l2 l3 la (iR_rg g.2.2 (by decide) (by decide)))
    have e7 : sA (sA C (nI a) 0 x) (nI a) 1 y = upd (upd C (12 + 4 * a + 0) x) (12 + 4 * a + 1) y := by rw [sA_0 la, sA_1 la]
    have bc' := rC_bC (by omega) (rX_rC rx')
    have bc2 := bc'
    rw [← e7] at bc2
    obtain ⟨W', o', hk, ho', hn', hx'⟩ := hX_keep hx rx ho hn
    obtain ⟨R1, R2, R3, R4, R5, R6, R7, hz, c1⟩ := C_X7_moveAnchor (Od := (f, nI t, bg, en, kd, fi, se, nu)) (T1 := T1) (P1 := P1) (T2 := T2) (P2 := P2) (RS := RS) (SD := SD) (XS := XS) (YS := YS) (OR := OR) (shn := shn) (W := W) ho hn ((anc_iff hpx e9 l1).mp g.1) g.2.1 g.2.2 bc2
    rw [e7, hk] at c1
    obtain ⟨j1, j2, j3, j4, j5, j6, j7, j8, j9, j10, c2⟩ := C_X8_moveAnchor (was := was) (text := text) (typ := nI t) (at_ := at_) (sig := sig) (fst := fst) (snd := snd) (rea := rea) (lef := lef) (top := top) (shf := shf) (arr := arr) (goo := goo) (ord := ord) (why := why) (son := son) (shn := shm) (tri := tri) (trs := trs) hn la g.1 g.2.1 g.2.2 bc'.wd bc'.hwi
    exact ⟨_, _, _, INV_mk rx' hz rfl hx' ho' hn' ht hf, c1, c2⟩
  · exact ⟨_, _, _, INV_mk rx sr hshn hx ho hn ht hf, C_X7_moveAnchor_bad (fun z => g ⟨(anc_iff hpx e9 l1).mpr z.1, z.2⟩), C_X8_moveAnchor_bad g⟩
theorem P_set {w v : Int32} : PAIR k_X7_set k_X8_set [.int w, .int v] := by
  intro H1 H2 B hB hI
  obtain ⟨C, W, f, d, was, text, RS, SD, XS, YS, OR, o, n, t, nA, nH, nO, shn, bg, en, kd, fi, se, nu, T1, P1, T2, P2, at_, sig, fst, snd, rea, lef, top, shf, arr, goo, ord, why, son, shm, tri, trs, rfl, rfl, rx, sr, hshn, hx, ho, hn, ht, hf⟩ := hI
  obtain ⟨hw, hpx, hro⟩ := id rx
  obtain ⟨l1, l2, l3, hw0⟩ := id hw
  have bc := rC_bC (by omega) (rX_rC rx)
  have e9 : d 9 = nI nA := bc.wd.2.2.2.1
  have e50 : d 50 = nI nH := bc.wd.2.2.2.2.1
  by_cases g : q_st w v
  · have g' := st_iff.mp g
    obtain ⟨k, hk5, rfl⟩ := rg_nI (v := w) (k := 5) (by omega) ⟨g'.1, g'.2.1⟩
    have q := st_R hk5 g
    have gs : gS C (nI k) = d (4 + k) := gS_d (pX_rK hpx) k hk5
    have rx' : rX (upd C (7 + k) v) (upd d (4 + k) v) nA nH nO B := rX_pair rx (px_S k hk5) (okc_S l1 l2 l3 hk5 q.1 q.2.1 q.2.2.1 q.2.2.2)
    have e7 : sP C (7 + nI k) v = upd C (7 + k) v := by show rp 172 C (nI 7 + nI k) v = _; rw [nI_add, rp_in C v (by omega) (by omega)]
    have bc' := rC_bC (by omega) (rX_rC rx')
    have bc2 := bc'
    rw [← e7] at bc2
    obtain ⟨W', o', hk, ho', hn', hx'⟩ := hX_keep hx rx ho hn
    obtain ⟨R1, R2, R3, R4, R5, R6, R7, hz, c1⟩ := C_X7_set (Od := (f, nI t, bg, en, kd, fi, se, nu)) (T1 := T1) (P1 := P1) (T2 := T2) (P2 := P2) (RS := RS) (SD := SD) (XS := XS) (YS := YS) (OR := OR) (shn := shn) (W := W) ho hn g'.1 g'.2.1 g'.2.2.1 g'.2.2.2 bc2
    rw [e7, hk] at c1
    rw [gs] at c1
    have c2 := C_X8_set (d := d) (was := was) (text := text) (typ := nI t) (at_ := at_) (sig := sig) (fst := fst) (snd := snd) (rea := rea) (lef := lef) (top := top) (shf := shf) (arr := arr) (goo := goo) (ord := ord) (why := why) (son := son) (shn := shm) (tri := tri) (trs := trs) hn hk5 g
    exact ⟨_, _, _, INV_mk rx' hz rfl hx' ho' hn' ht hf, c1, c2⟩
  · exact ⟨_, _, _, INV_mk rx sr hshn hx ho hn ht hf, C_X7_set_bad (fun z => g (st_iff.mpr z)), C_X8_set_bad g⟩
