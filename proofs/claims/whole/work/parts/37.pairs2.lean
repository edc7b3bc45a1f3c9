/-! PAIRS OF CALLS: changes of hints -/
theorem side_iff {s : Int32} : q_rg s 0 3 ↔ q_side s := by
  unfold q_rg q_side
  rw [Int32.not_lt, Int32.not_lt, Int32.not_le, Int32.le_iff_toInt_le, Int32.lt_iff_toInt_lt, Int32.le_iff_toInt_le, show (3 : Int32).toInt = 3 by decide, show (4 : Int32).toInt = 4 by decide]
  omega
theorem side_sd {s : Int32} (h : q_rg s 0 3) : sd s := by
  obtain ⟨j, hj, rfl⟩ := rg_nI (v := s) (k := 4) (by omega) (side_iff.mp h)
  rcases (show j = 0 ∨ j = 1 ∨ j = 2 ∨ j = 3 by omega) with rfl | rfl | rfl | rfl
  · exact Or.inl rfl
  · exact Or.inr (Or.inl rfl)
  · exact Or.inr (Or.inr (Or.inl rfl))
  · exact Or.inr (Or.inr (Or.inr rfl))
theorem of_iff {C d : aF} (h : pX C d) {w v : Int32} : q_of d w v ↔ (¬ w < 0 ∧ w < 8 ∧ ¬ v < v_lv w ∧ v ≤ v_hv C w) := by
  have e := G_4 h
  constructor
  · rintro (⟨rfl, h⟩ | ⟨rfl, h⟩ | ⟨rfl, h⟩ | ⟨rfl, h⟩ | ⟨rfl, h⟩ | ⟨rfl, h⟩ | ⟨rfl, h⟩ | ⟨rfl, h⟩)
    · rw [← e] at h; exact ⟨by decide, by decide, h.1, Int32.not_lt.mp h.2⟩
    all_goals exact ⟨by decide, by decide, h.1, Int32.not_lt.mp h.2⟩
  · rintro ⟨h1, h2, h3, h4⟩
    obtain ⟨k, hk, rfl⟩ := rg_nI (v := w) (k := 8) (by omega) ⟨h1, Int32.not_le.mpr h2⟩
    have h5 := Int32.not_lt.mpr h4
    rcases (show k = 0 ∨ k = 1 ∨ k = 2 ∨ k = 3 ∨ k = 4 ∨ k = 5 ∨ k = 6 ∨ k = 7 by omega) with rfl | rfl | rfl | rfl | rfl | rfl | rfl | rfl
    · refine Or.inl ⟨rfl, ?_⟩
      rw [← e]
      exact ⟨h3, h5⟩
    · exact Or.inr (Or.inl ⟨rfl, h3, h5⟩)
    · exact Or.inr (Or.inr (Or.inl ⟨rfl, h3, h5⟩))
    · exact Or.inr (Or.inr (Or.inr (Or.inl ⟨rfl, h3, h5⟩)))
    · exact Or.inr (Or.inr (Or.inr (Or.inr (Or.inl ⟨rfl, h3, h5⟩))))
    · exact Or.inr (Or.inr (Or.inr (Or.inr (Or.inr (Or.inl ⟨rfl, h3, h5⟩)))))
    · exact Or.inr (Or.inr (Or.inr (Or.inr (Or.inr (Or.inr (Or.inl ⟨rfl, h3, h5⟩))))))
    · exact Or.inr (Or.inr (Or.inr (Or.inr (Or.inr (Or.inr (Or.inr ⟨rfl, h3, h5⟩))))))
theorem of_ok {d : aF} {nA nH nO g k : Nat} {v : Int32} (hA : nA ≤ 10) (hH : nH ≤ 12) (hO : nO ≤ 12) (e : d 9 = nI nA) (hg : g < 12) (hk : k < 8) (h : q_of d (nI k) v) : okc nA nH nO (51 + 12 * k + g) v := by
  have key : ∀ j : Nat, j < 8 → nI k = nI j → k = j := fun j hj e => (nI_eq (by omega) (by omega)).mp e
  have void : ∀ {P : Prop} {a b : Nat}, a ≠ b → a = b → P := fun h z => absurd z h
  rcases h with ⟨q, h⟩ | ⟨q, h⟩ | ⟨q, h⟩ | ⟨q, h⟩ | ⟨q, h⟩ | ⟨q, h⟩ | ⟨q, h⟩ | ⟨q, h⟩
  · have := key 0 (by omega) q; subst this; exact okc_H hA hH hO hg hk (fun _ => rg_ex e (by omega) h) (fun z => by omega) (fun z => by omega) (fun z => by omega) (fun z => by omega) (fun z => by omega)
  · have := key 1 (by omega) q; subst this; exact okc_H hA hH hO hg hk (fun z => by omega) (fun _ => iR_rg h (by decide) (by decide)) (fun z => by omega) (fun z => by omega) (fun z => by omega) (fun z => by omega)
  · have := key 2 (by omega) q; subst this; exact okc_H hA hH hO hg hk (fun z => by omega) (fun _ => iR_rg h (by decide) (by decide)) (fun z => by omega) (fun z => by omega) (fun z => by omega) (fun z => by omega)
  · have := key 3 (by omega) q; subst this; exact okc_H hA hH hO hg hk (fun z => by omega) (fun z => by omega) (fun _ => side_sd h) (fun z => by omega) (fun z => by omega) (fun z => by omega)
  · have := key 4 (by omega) q; subst this; exact okc_H hA hH hO hg hk (fun z => by omega) (fun z => by omega) (fun z => by omega) (fun _ => iR_rg h (by decide) (by decide)) (fun z => by omega) (fun z => by omega)
  · have := key 5 (by omega) q; subst this; exact okc_H hA hH hO hg hk (fun z => by omega) (fun z => by omega) (fun z => by omega) (fun _ => iR_rg h (by decide) (by decide)) (fun z => by omega) (fun z => by omega)
  · have := key 6 (by omega) q; subst this; exact okc_H hA hH hO hg hk (fun z => by omega) (fun z => by omega) (fun z => by omega) (fun z => by omega) (fun _ => iR_rg h (by decide) (by decide)) (fun z => by omega)
  · have := key 7 (by omega) q; subst this; exact okc_H hA hH hO hg hk (fun z => by omega) (fun z => by omega) (fun z => by omega) (fun z => by omega) (fun z => by omega) (fun _ => iR_rg h (by decide) (by decide))
theorem INV_mk2 {C W f d was text RS SD XS YS OR : aF} {o n t nA nH nO B : Nat} {shn bg en kd fi se nu : Int32} {T1 : tT} {P1 : tP} {T2 : tT} {P2 : tP} {at_ sig fst snd rea lef top shf arr goo : Int32} {ord why son : aF} {shm : Int32} {tri : aF} {trs : Int32} (h1 : rX C d nA nH nO (B + 1)) (h2 : sR d nH RS SD XS YS (p_all d nA nH nO).1 (p_all d nA nH nO).2.1) (h3 : shn = (p_all d nA nH nO).2.2) (h4 : hX W was o n B) (h5 : o < 5) (h6 : n ≤ 5) (h7 : t ≤ 60) (h8 : ∀ i, i < t → f i = text i) : INV (cH C (W, nI o, nI n) (RS, SD, XS, YS, OR, shn) T1 P1 (f, nI t, bg, en, kd, fi, se, nu) T2 P2) (mH d was (nI n) text (nI t) at_ sig fst snd rea lef top shf arr goo ord why son shm tri trs) (B + 30) :=
  ⟨C, W, f, d, was, text, RS, SD, XS, YS, OR, o, n, t, nA, nH, nO, shn, bg, en, kd, fi, se, nu, T1, P1, T2, P2, at_, sig, fst, snd, rea, lef, top, shf, arr, goo, ord, why, son, shm, tri, trs, rfl, rfl, rX_mono h1 (by omega), h2, h3, hX_mono h4 (by omega), h5, h6, h7, h8⟩
theorem pO_in {C d : aF} {nA nH nO B : Nat} (hw : wD d nA nH nO) (hO : rO C d nH nO B) {k : Nat} (hk : k < nH) (h : k ∈ ordL d nO) : ∃ p, p < nO ∧ op d p = k ∧ pO d (nI k) nO 0 = nI p := by
  unfold ordL at h
  rw [List.mem_reverse, ordR_mem] at h
  obtain ⟨p, hp, e⟩ := h
  refine ⟨p, hp, e.symm, pO_at ((op_of hw hp).2.trans (by rw [e])) (by omega) (by omega) (fun j h1 h2 z => ?_)⟩
  rw [(op_of hw (show j < nO by omega)).2, nI_eq (by have := (op_of hw (show j < nO by omega)).1; have := hw.2.1; omega) (by have := hw.2.1; omega)] at z
  have := rO_wI hO j p (by omega) hp (z.trans e)
  omega
theorem pO_out {C d : aF} {nA nH nO B : Nat} (hw : wD d nA nH nO) (hO : rO C d nH nO B) {k : Nat} (hk : k < nH) (h : ¬ k ∈ ordL d nO) : pO d (nI k) nO 0 = -1 := by
  refine pO_no (fun j h1 h2 z => h ?_)
  unfold ordL
  rw [List.mem_reverse, ordR_mem]
  refine ⟨j, by omega, ?_⟩
  rw [(op_of hw (show j < nO by omega)).2, nI_eq (by have := (op_of hw (show j < nO by omega)).1; have := hw.2.1; omega) (by have := hw.2.1; omega)] at z
  exact z.symm
theorem p_step_sd {d : aF} {nA nH nO : Nat} (hw : wD d nA nH nO) {S : aF × aF × Int32} (h : ∀ o, S.2.1 o = -1 ∨ sd (S.2.1 o)) {k : Nat} (hk : k < nH) : ∀ o, (p_step d nA nH S k).2.1 o = -1 ∨ sd ((p_step d nA nH S k).2.1 o) := by
  intro o
  unfold p_step
  by_cases q : q_sn d (p_an d k)
  · rw [iif_t q]
    split
    · show upd S.2.1 k _ o = -1 ∨ sd (upd S.2.1 k _ o)
      by_cases e : o = k
      · subst e
        rw [upd_at]
        exact p_try_sd d S.2.1 nA nH o _ 3 (tryL_sd (hw.2.2.2.2.2.2.2.1 o hk) (hw.2.2.2.2.2.2.2.2.1 o hk))
      · rw [upd_ne e]; exact h o
    · exact h o
  · rw [iif_f q]; exact h o
theorem p_run_sd {d : aF} {nA nH nO : Nat} (hw : wD d nA nH nO) : ∀ (L : List Nat) (S : aF × aF × Int32), (∀ x ∈ L, x < nH) → (∀ o, S.2.1 o = -1 ∨ sd (S.2.1 o)) → ∀ o, (p_run d nA nH S L).2.1 o = -1 ∨ sd ((p_run d nA nH S L).2.1 o)
  | [], _, _, h => h
  | x :: L, S, hL, h => p_run_sd hw L (p_step d nA nH S x) (fun y hy => hL y (List.mem_cons_of_mem _ hy)) (p_step_sd hw h (hL x List.mem_cons_self))
theorem p_all_sd {d : aF} {nA nH nO : Nat} (hw : wD d nA nH nO) (o : Nat) : (p_all d nA nH nO).2.1 o = -1 ∨ sd ((p_all d nA nH nO).2.1 o) := p_run_sd hw _ _ (fun x hx => ordL_mem hw hx) (fun _ => Or.inl rfl) o
theorem rX_rm {C d RS SD XS YS W on : aF} {nA nH nO B : Nat} (r : rX C d nA nH nO B) (s : sR d nH RS SD XS YS W on) (hs : ∀ o, on o = -1 ∨ sd (on o)) : ∀ k, k ≤ nH → rX (rmC C RS SD k) (rmb d on k) nA nH nO B
  | 0, _ => r
  | k + 1, hk => by
    have ih := rX_rm r s hs k (by omega)
    obtain ⟨l1, l2, l3, _⟩ := ih.1
    obtain ⟨s1, s2, s3⟩ := s k (by omega)
    show rX (iif (RS k = 0) (sH (rmC C RS SD k) (nI k) 9 (SD k)) (rmC C RS SD k)) (iif (on k = -1) (rmb d on k) (upd (rmb d on k) (160 + k) (on k))) nA nH nO B
    by_cases q : RS k = 0
    · have q2 := s2.mp q
      rw [iif_t q, iif_f q2, sH_9 (by omega), (s3 q2).1]
      exact rX_pair ih (px_M k (by omega)) (okc_M l1 l2 l3 (by omega) (hs k))
    · rw [iif_f q, iif_t (Classical.byContradiction fun z => q (s2.mpr z))]
      exact ih
theorem rm_cnt {C d RS SD XS YS W on : aF} {nA nH nO B : Nat} (r : rX C d nA nH nO B) (s : sR d nH RS SD XS YS W on) (hs : ∀ o, on o = -1 ∨ sd (on o)) : cP (rmP C RS SD) nH = cP (fun j => ¬ on j = -1 ∧ ¬ d (160 + j) = on j) nH := by
  refine cP_congr (fun o ho => ?_)
  have ih := rX_rm r s hs o (by omega)
  have l2 := ih.1.2.1
  obtain ⟨s1, s2, s3⟩ := s o ho
  unfold rmP
  rw [show gH (rmC C RS SD o) (nI o) 9 = d (160 + o) from (gH_k _ (k := 9) (by omega) (by omega)).trans ((ih.2.1 _ _ (px_M o (by omega))).trans (rmb_ne (by omega))), s2]
  constructor
  · rintro ⟨a, b⟩; exact ⟨a, fun z => b (z.trans (s3 a).1.symm)⟩
  · rintro ⟨a, b⟩; exact ⟨a, fun z => b (z.trans (s3 a).1)⟩
theorem P_hint {v w h s g : Int32} : PAIR k_X7_hint k_X8_hint [.int v, .int w, .int h, .int s, .int g] := by
  intro H1 H2 B hB hI
  obtain ⟨C, W, f, d, was, text, RS, SD, XS, YS, OR, o, n, t, nA, nH, nO, shn, bg, en, kd, fi, se, nu, T1, P1, T2, P2, at_, sig, fst, snd, rea, lef, top, shf, arr, goo, ord, why, son, shm, tri, trs, rfl, rfl, rx, sr, hshn, hx, ho, hn, ht, hf⟩ := hI
  obtain ⟨hw, hpx, hro⟩ := id rx
  obtain ⟨l1, l2, l3, hw0⟩ := id hw
  have bc := rC_bC (by omega) (rX_rC rx)
  have e9 : d 9 = nI nA := bc.wd.2.2.2.1
  have e50 : d 50 = nI nH := bc.wd.2.2.2.2.1
  by_cases g0 : q_rg v 0 (d 9 - 1) ∧ q_rg w 1 200 ∧ q_rg h 1 200 ∧ q_rg s 0 3 ∧ q_rg g 0 2
  · by_cases gH : nH < 12
    · have rx' : rX (upd (upd (upd (upd (upd (upd (upd (upd (upd (upd (upd C 5 (nI (nH + 1))) (52 + 10 * nH + 0) v) (52 + 10 * nH + 1) w) (52 + 10 * nH + 2) h) (52 + 10 * nH + 3) s) (52 + 10 * nH + 4) g) (52 + 10 * nH + 5) 0) (52 + 10 * nH + 6) 0) (52 + 10 * nH + 7) 0) (52 + 10 * nH + 8) 0) (52 + 10 * nH + 9) (-1)) (upd (upd (upd (upd (upd (upd (upd (upd (upd (upd (d) (51 + nH) v) (63 + nH) w) (75 + nH) h) (87 + nH) s) (99 + nH) g) (111 + nH) 0) (123 + nH) 0) (135 + nH) 0) (160 + nH) (-1)) 50 (nI (nH + 1))) nA (nH + 1) nO B := rX_hint rx gH (rg_ex e9 (by omega) g0.1) (iR_rg g0.2.1 (by decide) (by decide)) (iR_rg g0.2.2.1 (by decide) (by decide)) (side_sd g0.2.2.2.1) (iR_rg g0.2.2.2.2 (by decide) (by decide))
      have e7 : sH (sH (sH (sH (sH (sH (sH (sH (sH (sH (sP C 5 (nI nH + 1)) (nI nH) 0 v) (nI nH) 1 w) (nI nH) 2 h) (nI nH) 3 s) (nI nH) 4 g) (nI nH) 5 0) (nI nH) 6 0) (nI nH) 7 0) (nI nH) 8 0) (nI nH) 9 (-1) = upd (upd (upd (upd (upd (upd (upd (upd (upd (upd (upd C 5 (nI (nH + 1))) (52 + 10 * nH + 0) v) (52 + 10 * nH + 1) w) (52 + 10 * nH + 2) h) (52 + 10 * nH + 3) s) (52 + 10 * nH + 4) g) (52 + 10 * nH + 5) 0) (52 + 10 * nH + 6) 0) (52 + 10 * nH + 7) 0) (52 + 10 * nH + 8) 0) (52 + 10 * nH + 9) (-1) := by rw [nI_1, sP_5, sH_0 gH, sH_1 gH, sH_2 gH, sH_3 gH, sH_4 gH, sH_5 gH, sH_6 gH, sH_7 gH, sH_8 gH, sH_9 gH]
      have bc' := rC_bC (by omega) (rX_rC rx')
      have bc2 := bc'
      rw [← e7] at bc2
      obtain ⟨W', o', hk, ho', hn', hx'⟩ := hX_keep hx rx ho hn
      obtain ⟨R1, R2, R3, R4, R5, R6, R7, hz, c1⟩ := C_X7_hint (Od := (f, nI t, bg, en, kd, fi, se, nu)) (T1 := T1) (P1 := P1) (T2 := T2) (P2 := P2) (RS := RS) (SD := SD) (XS := XS) (YS := YS) (OR := OR) (shn := shn) (W := W) ho hn ((anc_iff hpx e9 l1).mp g0.1) g0.2.1 g0.2.2.1 (side_iff.mp g0.2.2.2.1) g0.2.2.2.2.1 (Int32.not_lt.mp g0.2.2.2.2.2) ((G_5 hpx).trans e50) gH bc2
      rw [e7, hk] at c1
      have c2 := C_X8_hint (d := d) (was := was) (text := text) (typ := nI t) (at_ := at_) (sig := sig) (fst := fst) (snd := snd) (rea := rea) (lef := lef) (top := top) (shf := shf) (arr := arr) (goo := goo) (ord := ord) (why := why) (son := son) (shn := shm) (tri := tri) (trs := trs) hn g0.1 g0.2.1 g0.2.2.1 g0.2.2.2.1 g0.2.2.2.2 e50 gH
      exact ⟨_, _, _, INV_mk rx' hz rfl hx' ho' hn' ht hf, c1, c2⟩
    · have g12 : nH = 12 := by omega
      subst g12
      exact ⟨_, _, _, INV_mk rx sr hshn hx ho hn ht hf, C_X7_hint_lim ((anc_iff hpx e9 l1).mp g0.1) g0.2.1 g0.2.2.1 (side_iff.mp g0.2.2.2.1) g0.2.2.2.2.1 (Int32.not_lt.mp g0.2.2.2.2.2) ((G_5 hpx).trans e50), C_X8_hint_lim g0.1 g0.2.1 g0.2.2.1 g0.2.2.2.1 g0.2.2.2.2 e50⟩
  · exact ⟨_, _, _, INV_mk rx sr hshn hx ho hn ht hf, C_X7_hint_bad (fun z => g0 ⟨(anc_iff hpx e9 l1).mpr z.1, z.2.1, z.2.2.1, side_iff.mpr z.2.2.2.1, z.2.2.2.2.1, Int32.not_lt.mpr z.2.2.2.2.2⟩), C_X8_hint_bad g0⟩
theorem P_alter {h w v : Int32} : PAIR k_X7_alter k_X8_alter [.int h, .int w, .int v] := by
  intro H1 H2 B hB hI
  obtain ⟨C, W, f, d, was, text, RS, SD, XS, YS, OR, o, n, t, nA, nH, nO, shn, bg, en, kd, fi, se, nu, T1, P1, T2, P2, at_, sig, fst, snd, rea, lef, top, shf, arr, goo, ord, why, son, shm, tri, trs, rfl, rfl, rx, sr, hshn, hx, ho, hn, ht, hf⟩ := hI
  obtain ⟨hw, hpx, hro⟩ := id rx
  obtain ⟨l1, l2, l3, hw0⟩ := id hw
  have bc := rC_bC (by omega) (rX_rC rx)
  have e9 : d 9 = nI nA := bc.wd.2.2.2.1
  have e50 : d 50 = nI nH := bc.wd.2.2.2.2.1
  by_cases g : q_rg h 0 (d 50 - 1) ∧ q_of d w v
  · have q := (of_iff hpx).mp g.2
    obtain ⟨j, hj, rfl⟩ := rg_ex e50 (by omega) g.1
    obtain ⟨k, hk8, rfl⟩ := rg_nI (v := w) (k := 8) (by omega) ⟨q.1, Int32.not_le.mpr q.2.1⟩
    have lj : j < 12 := by omega
    have gs : gH C (nI j) (nI k) = dH d j k := gH_d (pX_rK hpx) lj k hk8
    have key : (nI k = 0 ∨ nI k = 3) ↔ (k = 0 ∨ k = 3) := by rw [show (0 : Int32) = nI 0 from rfl, show (3 : Int32) = nI 3 from rfl, nI_eq (by omega) (by omega), nI_eq (by omega) (by omega)]
    have hok := of_ok l1 l2 l3 e9 lj hk8 g.2
    by_cases g3 : k = 0 ∨ k = 3
    · have rx' : rX (upd (upd C (52 + 10 * j + k) v) (52 + 10 * j + 9) (-1)) (upd (upd d (51 + 12 * k + j) v) (160 + j) (-1)) nA nH nO B := rX_pair (rX_pair rx (px_H j k lj hk8) hok) (px_M j lj) (okc_M l1 l2 l3 lj (Or.inl rfl))
      have e7 : sH (sH C (nI j) (nI k) v) (nI j) 9 (-1) = upd (upd C (52 + 10 * j + k) v) (52 + 10 * j + 9) (-1) := by rw [sH_k lj (by omega), sH_9 lj]
      have bc' := rC_bC (by omega) (rX_rC rx')
      have bc2 := bc'
      rw [← e7] at bc2
      obtain ⟨W', o', hk, ho', hn', hx'⟩ := hX_keep hx rx ho hn
      obtain ⟨R1, R2, R3, R4, R5, R6, R7, hz, c1⟩ := C_X7_alter_f (Od := (f, nI t, bg, en, kd, fi, se, nu)) (T1 := T1) (P1 := P1) (T2 := T2) (P2 := P2) (RS := RS) (SD := SD) (XS := XS) (YS := YS) (OR := OR) (shn := shn) (W := W) ho hn ((hin_iff hpx e50 l2).mp g.1) q.1 q.2.1 q.2.2.1 q.2.2.2 (key.mpr g3) bc2
      rw [e7, hk] at c1
      rw [gs] at c1
      have c2 := C_X8_alter_f (d := d) (was := was) (text := text) (typ := nI t) (at_ := at_) (sig := sig) (fst := fst) (snd := snd) (rea := rea) (lef := lef) (top := top) (shf := shf) (arr := arr) (goo := goo) (ord := ord) (why := why) (son := son) (shn := shm) (tri := tri) (trs := trs) hn lj hk8 g.1 g.2 g3
      exact ⟨_, _, _, INV_mk rx' hz rfl hx' ho' hn' ht hf, c1, c2⟩
    · have rx' : rX (upd C (52 + 10 * j + k) v) (upd d (51 + 12 * k + j) v) nA nH nO B := rX_pair rx (px_H j k lj hk8) hok
      have e7 : sH C (nI j) (nI k) v = upd C (52 + 10 * j + k) v := sH_k lj (by omega)
      have bc' := rC_bC (by omega) (rX_rC rx')
      have bc2 := bc'
      rw [← e7] at bc2
      obtain ⟨W', o', hk, ho', hn', hx'⟩ := hX_keep hx rx ho hn
      obtain ⟨R1, R2, R3, R4, R5, R6, R7, hz, c1⟩ := C_X7_alter (Od := (f, nI t, bg, en, kd, fi, se, nu)) (T1 := T1) (P1 := P1) (T2 := T2) (P2 := P2) (RS := RS) (SD := SD) (XS := XS) (YS := YS) (OR := OR) (shn := shn) (W := W) ho hn ((hin_iff hpx e50 l2).mp g.1) q.1 q.2.1 q.2.2.1 q.2.2.2 (fun z => g3 (key.mp z)) bc2
      rw [e7, hk] at c1
      rw [gs] at c1
      have c2 := C_X8_alter (d := d) (was := was) (text := text) (typ := nI t) (at_ := at_) (sig := sig) (fst := fst) (snd := snd) (rea := rea) (lef := lef) (top := top) (shf := shf) (arr := arr) (goo := goo) (ord := ord) (why := why) (son := son) (shn := shm) (tri := tri) (trs := trs) hn lj hk8 g.1 g.2 g3
      exact ⟨_, _, _, INV_mk rx' hz rfl hx' ho' hn' ht hf, c1, c2⟩
  · exact ⟨_, _, _, INV_mk rx sr hshn hx ho hn ht hf, C_X7_alter_bad (fun z => g ⟨(hin_iff hpx e50 l2).mpr z.1, (of_iff hpx).mpr z.2⟩), C_X8_alter_bad g⟩
theorem P_open {h : Int32} : PAIR k_X7_open k_X8_open [.int h] := by
  intro H1 H2 B hB hI
  obtain ⟨C, W, f, d, was, text, RS, SD, XS, YS, OR, o, n, t, nA, nH, nO, shn, bg, en, kd, fi, se, nu, T1, P1, T2, P2, at_, sig, fst, snd, rea, lef, top, shf, arr, goo, ord, why, son, shm, tri, trs, rfl, rfl, rx, sr, hshn, hx, ho, hn, ht, hf⟩ := hI
  obtain ⟨hw, hpx, hro⟩ := id rx
  obtain ⟨l1, l2, l3, hw0⟩ := id hw
  have bc := rC_bC (by omega) (rX_rC rx)
  have e9 : d 9 = nI nA := bc.wd.2.2.2.1
  have e50 : d 50 = nI nH := bc.wd.2.2.2.2.1
  by_cases g : q_rg h 0 (d 50 - 1)
  · obtain ⟨k, hkH, rfl⟩ := rg_ex e50 (by omega) g
    have lk : k < 12 := by omega
    have e147 : d 147 = nI nO := bc.wd.2.2.2.2.2.1
    have gq := (hin_iff hpx e50 l2).mp g
    by_cases g2 : q_open C (nI k)
    · obtain ⟨p, hp, hp2, hp3⟩ := pO_in bc.wd hro hkH ((open_iff bc.wd (by omega) hro hkH).mp g2)
      exact ⟨_, _, _, INV_mk rx sr hshn hx ho hn ht hf, C_X7_open_np gq g2, C_X8_open_np lk g e147 l3 (by rw [hp3]; exact nI_neg1 (by omega))⟩
    · have gm : ¬ k ∈ ordL d nO := fun z => g2 ((open_iff bc.wd (by omega) hro hkH).mpr z)
      have hlt := nO_lt (by omega) rx hkH g2
      have rx' : rX (upd (upd C 6 (C 6 + 1)) (52 + 10 * k + 8) (C 6 + 1)) (upd (upd d (148 + nO) (nI k)) 147 (nI (nO + 1))) nA nH (nO + 1) (B + 1) := rX_open (by omega) rx hkH g2
      have e7 : sH (sP C 6 (gG C 6 + 1)) (nI k) 8 (gG C 6 + 1) = upd (upd C 6 (C 6 + 1)) (52 + 10 * k + 8) (C 6 + 1) := by rw [show gG C 6 = C 6 from gG_k C (k := 6) (by omega), sP_6, sH_8 lk]
      have bc' := rC_bC (by omega) (rX_rC rx')
      have bc2 := bc'
      rw [← e7] at bc2
      obtain ⟨W', o', hk, ho', hn', hx'⟩ := hX_keep hx rx ho hn
      obtain ⟨R1, R2, R3, R4, R5, R6, R7, hz, c1⟩ := C_X7_open (Od := (f, nI t, bg, en, kd, fi, se, nu)) (T1 := T1) (P1 := P1) (T2 := T2) (P2 := P2) (RS := RS) (SD := SD) (XS := XS) (YS := YS) (OR := OR) (shn := shn) (W := W) ho hn hkH l2 gq g2 bc2
      rw [e7, hk] at c1
      obtain ⟨j1, j2, j3, j4, j5, j6, j7, j8, j9, j10, c2⟩ := C_X8_open (was := was) (text := text) (typ := nI t) (at_ := at_) (sig := sig) (fst := fst) (snd := snd) (rea := rea) (lef := lef) (top := top) (shf := shf) (arr := arr) (goo := goo) (ord := ord) (why := why) (son := son) (shn := shm) (tri := tri) (trs := trs) hn lk g e147 l3 (by omega) (pO_out bc.wd hro hkH gm) bc'.wd bc'.hwi
      exact ⟨_, _, _, INV_mk2 rx' hz rfl hx' ho' hn' ht hf, c1, c2⟩
  · exact ⟨_, _, _, INV_mk rx sr hshn hx ho hn ht hf, C_X7_open_bad (fun z => g ((hin_iff hpx e50 l2).mpr z)), C_X8_open_bad g⟩
theorem P_close {h : Int32} : PAIR k_X7_close k_X8_close [.int h] := by
  intro H1 H2 B hB hI
  obtain ⟨C, W, f, d, was, text, RS, SD, XS, YS, OR, o, n, t, nA, nH, nO, shn, bg, en, kd, fi, se, nu, T1, P1, T2, P2, at_, sig, fst, snd, rea, lef, top, shf, arr, goo, ord, why, son, shm, tri, trs, rfl, rfl, rx, sr, hshn, hx, ho, hn, ht, hf⟩ := hI
  obtain ⟨hw, hpx, hro⟩ := id rx
  obtain ⟨l1, l2, l3, hw0⟩ := id hw
  have bc := rC_bC (by omega) (rX_rC rx)
  have e9 : d 9 = nI nA := bc.wd.2.2.2.1
  have e50 : d 50 = nI nH := bc.wd.2.2.2.2.1
  by_cases g : q_rg h 0 (d 50 - 1)
  · obtain ⟨k, hkH, rfl⟩ := rg_ex e50 (by omega) g
    have lk : k < 12 := by omega
    have e147 : d 147 = nI nO := bc.wd.2.2.2.2.2.1
    have gq := (hin_iff hpx e50 l2).mp g
    by_cases g2 : q_open C (nI k)
    · obtain ⟨p, hp, hp2, hp3⟩ := pO_in bc.wd hro hkH ((open_iff bc.wd (by omega) hro hkH).mp g2)
      obtain ⟨n1, rfl⟩ : ∃ n1, nO = n1 + 1 := ⟨nO - 1, by omega⟩
      have rx' : rX (upd (upd C (52 + 10 * k + 8) 0) (52 + 10 * k + 9) (-1)) (upd (shO (upd d 147 (nI n1)) p (n1 - p)) (160 + k) (-1)) nA nH n1 B := rX_close (by omega) rx hkH (by omega) hp2
      have e7 : sH (sH C (nI k) 8 0) (nI k) 9 (-1) = upd (upd C (52 + 10 * k + 8) 0) (52 + 10 * k + 9) (-1) := by rw [sH_8 lk, sH_9 lk]
      have bc' := rC_bC (by omega) (rX_rC rx')
      have bc2 := bc'
      rw [← e7] at bc2
      obtain ⟨W', o', hk, ho', hn', hx'⟩ := hX_keep hx rx ho hn
      obtain ⟨R1, R2, R3, R4, R5, R6, R7, hz, c1⟩ := C_X7_close (Od := (f, nI t, bg, en, kd, fi, se, nu)) (T1 := T1) (P1 := P1) (T2 := T2) (P2 := P2) (RS := RS) (SD := SD) (XS := XS) (YS := YS) (OR := OR) (shn := shn) (W := W) ho hn gq g2 bc2
      rw [e7, hk] at c1
      obtain ⟨j1, j2, j3, j4, j5, j6, j7, j8, j9, j10, c2⟩ := C_X8_close (was := was) (text := text) (typ := nI t) (at_ := at_) (sig := sig) (fst := fst) (snd := snd) (rea := rea) (lef := lef) (top := top) (shf := shf) (arr := arr) (goo := goo) (ord := ord) (why := why) (son := son) (shn := shm) (tri := tri) (trs := trs) hn lk g e147 (by omega) (by omega) hp3 bc'.wd bc'.hwi
      exact ⟨_, _, _, INV_mk rx' hz rfl hx' ho' hn' ht hf, c1, c2⟩
    · have gm : ¬ k ∈ ordL d nO := fun z => g2 ((open_iff bc.wd (by omega) hro hkH).mpr z)
      exact ⟨_, _, _, INV_mk rx sr hshn hx ho hn ht hf, C_X7_close_np gq g2, C_X8_close_np lk g e147 l3 (pO_out bc.wd hro hkH gm)⟩
  · exact ⟨_, _, _, INV_mk rx sr hshn hx ho hn ht hf, C_X7_close_bad (fun z => g ((hin_iff hpx e50 l2).mpr z)), C_X8_close_bad g⟩
theorem P_settle  : PAIR k_X7_settle k_X8_settle [] := by
  intro H1 H2 B hB hI
  obtain ⟨C, W, f, d, was, text, RS, SD, XS, YS, OR, o, n, t, nA, nH, nO, shn, bg, en, kd, fi, se, nu, T1, P1, T2, P2, at_, sig, fst, snd, rea, lef, top, shf, arr, goo, ord, why, son, shm, tri, trs, rfl, rfl, rx, sr, hshn, hx, ho, hn, ht, hf⟩ := hI
  obtain ⟨hw, hpx, hro⟩ := id rx
  obtain ⟨l1, l2, l3, hw0⟩ := id hw
  have bc := rC_bC (by omega) (rX_rC rx)
  have e9 : d 9 = nI nA := bc.wd.2.2.2.1
  have e50 : d 50 = nI nH := bc.wd.2.2.2.2.1
  have hsd := p_all_sd bc.wd
  have h5 : ∀ k, k ≤ nH → gG (rmC C RS SD k) 5 = nI nH := fun k hk => (G_5 (rX_rm rx sr hsd k hk).2.1).trans (wX_wD (rX_rm rx sr hsd k hk).1).1.2.2.2.2.1
  have rx' : rX (rmC C RS SD nH) (rmb d (p_all d nA nH nO).2.1 nH) nA nH nO B := rX_rm rx sr hsd nH (Nat.le_refl _)
  have e7 : rmC C RS SD nH = rmC C RS SD nH := rfl
  have bc' := rC_bC (by omega) (rX_rC rx')
  have bc2 := bc'
  rw [← e7] at bc2
  obtain ⟨W', o', hk, ho', hn', hx'⟩ := hX_keep hx rx ho hn
  obtain ⟨R1, R2, R3, R4, R5, R6, R7, hz, c1⟩ := C_X7_settle (Od := (f, nI t, bg, en, kd, fi, se, nu)) (T1 := T1) (P1 := P1) (T2 := T2) (P2 := P2) (RS := RS) (SD := SD) (XS := XS) (YS := YS) (OR := OR) (shn := shn) (W := W) ho hn h5 l2 bc2
  rw [e7, hk] at c1
  rw [rm_cnt rx sr hsd] at c1
  obtain ⟨j1, j2, j3, j4, j5, j6, j7, j8, j9, j10, c2⟩ := C_X8_settle (was := was) (text := text) (typ := nI t) (at_ := at_) (sig := sig) (fst := fst) (snd := snd) (rea := rea) (lef := lef) (top := top) (shf := shf) (arr := arr) (goo := goo) (ord := ord) (why := why) (son := son) (shn := shm) (tri := tri) (trs := trs) hn bc.wd bc.hwi
  exact ⟨_, _, _, INV_mk rx' hz rfl hx' ho' hn' ht hf, c1, c2⟩
theorem P_undo  : PAIR k_X7_undo k_X8_undo [] := by
  intro H1 H2 B hB hI
  obtain ⟨C, W, f, d, was, text, RS, SD, XS, YS, OR, o, n, t, nA, nH, nO, shn, bg, en, kd, fi, se, nu, T1, P1, T2, P2, at_, sig, fst, snd, rea, lef, top, shf, arr, goo, ord, why, son, shm, tri, trs, rfl, rfl, rx, sr, hshn, hx, ho, hn, ht, hf⟩ := hI
  obtain ⟨hw, hpx, hro⟩ := id rx
  obtain ⟨l1, l2, l3, hw0⟩ := id hw
  have bc := rC_bC (by omega) (rX_rC rx)
  have e9 : d 9 = nI nA := bc.wd.2.2.2.1
  have e50 : d 50 = nI nH := bc.wd.2.2.2.2.1
  cases n with
  | zero => exact ⟨_, _, _, INV_mk rx sr hshn hx ho hn ht hf, C_X7_undo_np, C_X8_undo_np⟩
  | succ n =>
    obtain ⟨a1, a2, a3, r1⟩ := hx n (by omega)
    have rx' : rX (wC C W ((o + n) % 5 * 172) 172) (wC d was (172 * n) 172) a1 a2 a3 B := rX_congr r1 (fun c hc => if_pos hc) (fun c hc => if_pos hc)
    have bc' := rC_bC (by omega) (rX_rC rx')
    obtain ⟨R1, R2, R3, R4, R5, R6, R7, hz, c1⟩ := C_X7_undo (Od := (f, nI t, bg, en, kd, fi, se, nu)) (T1 := T1) (P1 := P1) (T2 := T2) (P2 := P2) (RS := RS) (SD := SD) (XS := XS) (YS := YS) (OR := OR) (shn := shn) ho (by omega) bc'
    have c2 := C_X8_undo (d := d) (was := was) (text := text) (typ := nI t) (at_ := at_) (sig := sig) (fst := fst) (snd := snd) (rea := rea) (lef := lef) (top := top) (shf := shf) (arr := arr) (goo := goo) (ord := ord) (why := why) (son := son) (shn := shm) (tri := tri) (trs := trs) (n := n) (by omega)
    exact ⟨_, _, _, INV_mk rx' hz rfl (fun i hi => hx i (by omega)) ho (by omega) ht hf, c1, c2⟩
