/-! ROWS OF ONE STATE: history, settings, order, counts -/
theorem rgH {v : Int32} {k : Nat} (hk : k < 2 ^ 31) : q_rg v 0 (nI k - 1) ↔ (¬ v < 0 ∧ ¬ nI k ≤ v) := by
  unfold q_rg
  constructor
  · rintro ⟨h1, h2⟩
    refine ⟨h1, fun z => h2 ?_⟩
    obtain ⟨j, hj, rfl⟩ := nI_of h1
    rw [nI_leI hk hj] at z
    cases k with
    | zero => exact Int32.lt_of_lt_of_le (show nI 0 - 1 < 0 by decide) (nI_pos' hj)
    | succ k => rw [nI_pred, nI_ltI (by omega) hj]; omega
  · rintro ⟨h1, h2⟩
    refine ⟨h1, fun z => h2 ?_⟩
    obtain ⟨j, hj, rfl⟩ := nI_of h1
    rw [nI_leI hk hj]
    cases k with
    | zero => omega
    | succ k => rw [nI_pred, nI_ltI (by omega) hj] at z; omega
/-- the states before: the class's ring, the reference's rows -/
def hX (W was : aF) (o n B : Nat) : Prop := ∀ i, i < n → ∃ nA nH nO, rX (fun c => W ((o + i) % 5 * 172 + c)) (fun c => was (172 * i + c)) nA nH nO B
theorem hX_mono {W was : aF} {o n B B' : Nat} (h : hX W was o n B) (hB : B ≤ B') : hX W was o n B' := fun i hi => by
  obtain ⟨nA, nH, nO, r⟩ := h i hi
  exact ⟨nA, nH, nO, rX_mono r hB⟩
theorem wW_in {W C : aF} {b c : Nat} (hc : c < 172) : wW W C b 172 (b + c) = C c := by
  unfold wW
  rw [if_pos (by omega), show b + c - b = c by omega]
theorem wW_out {W C : aF} {b j : Nat} (hj : j < b ∨ b + 172 ≤ j) : wW W C b 172 j = W j := by
  unfold wW
  rw [if_neg (by omega)]
theorem hX_keep {C d W was : aF} {nA nH nO o n B : Nat} (h : hX W was o n B) (r : rX C d nA nH nO B) (ho : o < 5) (hn : n ≤ 5) : ∃ (W' : aF) (o' : Nat), kH W C o n = (W', nI o', nI (mN n)) ∧ o' < 5 ∧ mN n ≤ 5 ∧ hX W' (mR was d n) o' (mN n) B := by
  unfold kH mR mN
  by_cases e : n = 5
  · subst e
    rw [if_pos rfl, if_pos rfl, if_pos rfl]
    refine ⟨_, _, rfl, Nat.mod_lt _ (by omega), Nat.le_refl _, fun i hi => ?_⟩
    by_cases e4 : i = 4
    · subst e4
      refine ⟨nA, nH, nO, rX_congr r (fun c hc => wW_in hc) (fun c hc => ?_)⟩
      exact wW_in (b := 688) hc
    · obtain ⟨a1, a2, a3, r1⟩ := h (i + 1) (by omega)
      refine ⟨a1, a2, a3, rX_congr r1 (fun c hc => ?_) (fun c hc => ?_)⟩
      · have hne : ((o + 1) % 5 + i) % 5 ≠ ((o + 1) % 5 + 4) % 5 := by omega
        show wW W C (((o + 1) % 5 + 4) % 5 * 172) 172 (((o + 1) % 5 + i) % 5 * 172 + c) = _
        rw [wW_out (by omega), show ((o + 1) % 5 + i) % 5 = (o + (i + 1)) % 5 by omega]
      · show wW (sW was 688) d 688 172 (172 * i + c) = _
        rw [wW_out (by omega)]
        unfold sW
        rw [if_pos (by omega), show 172 * i + c + 172 = 172 * (i + 1) + c by omega]
  · rw [if_neg e, if_neg e, if_neg e]
    refine ⟨_, _, rfl, ho, by omega, fun i hi => ?_⟩
    by_cases e4 : i = n
    · subst e4
      refine ⟨nA, nH, nO, rX_congr r (fun c hc => wW_in hc) (fun c hc => ?_)⟩
      exact wW_in (b := 172 * i) hc
    · obtain ⟨a1, a2, a3, r1⟩ := h i (by omega)
      refine ⟨a1, a2, a3, rX_congr r1 (fun c hc => ?_) (fun c hc => ?_)⟩
      · have hne : (o + i) % 5 ≠ (o + n) % 5 := by omega
        show wW W C ((o + n) % 5 * 172) 172 ((o + i) % 5 * 172 + c) = _
        rw [wW_out (by omega)]
      · show wW was d (172 * n) 172 (172 * i + c) = _
        rw [wW_out (by omega)]
theorem sP_k {C : aF} {k : Nat} {v : Int32} (hk : k < 172) : sP C (nI k) v = upd C k v := rp_in C v hk (by omega)
theorem sA_k {C : aF} {a k : Nat} {v : Int32} (ha : a < 10) (hk : k < 4) : sA C (nI a) (nI k) v = upd C (12 + 4 * a + k) v := by
  show rp 172 C (nI 12 + nI a * nI 4 + nI k) v = _
  rw [pk_mul, nI_add, nI_add, rp_in C v (by omega) (by omega), show 12 + a * 4 + k = 12 + 4 * a + k by omega]
theorem sH_k {C : aF} {h k : Nat} {v : Int32} (hh : h < 12) (hk : k < 10) : sH C (nI h) (nI k) v = upd C (52 + 10 * h + k) v := by
  show rp 172 C (nI 52 + nI h * nI 10 + nI k) v = _
  rw [pk_mul, nI_add, nI_add, rp_in C v (by omega) (by omega), show 52 + h * 10 + k = 52 + 10 * h + k by omega]
theorem iR_rg {v lo hi : Int32} {a b : Int} (h : q_rg v lo hi) (ha : lo.toInt = a) (hb : hi.toInt = b) : iR v a b := by
  obtain ⟨h1, h2⟩ := h
  rw [Int32.lt_iff_toInt_lt] at h1 h2
  exact ⟨by omega, by omega⟩
theorem rg_nI {v : Int32} {k : Nat} (hk : k < 2 ^ 31) (h : ¬ v < 0 ∧ ¬ nI k ≤ v) : ∃ j, j < k ∧ v = nI j := by
  obtain ⟨j, hj, rfl⟩ := nI_of h.1
  refine ⟨j, ?_, rfl⟩
  have := h.2
  rw [nI_leI hk hj] at this
  omega
theorem iR_add {x y : Int32} {lo hi : Int} {lo' hi' : Int32} (h : q_rg (x + y) lo' hi') (ha : lo'.toInt = lo) (hb : hi'.toInt = hi) : iR (x + y) lo hi := iR_rg h ha hb
theorem sA_0 {C : aF} {a : Nat} {v : Int32} (ha : a < 10) : sA C (nI a) 0 v = upd C (12 + 4 * a + 0) v := sA_k (k := 0) ha (by omega)
theorem sA_1 {C : aF} {a : Nat} {v : Int32} (ha : a < 10) : sA C (nI a) 1 v = upd C (12 + 4 * a + 1) v := sA_k (k := 1) ha (by omega)
theorem sA_2 {C : aF} {a : Nat} {v : Int32} (ha : a < 10) : sA C (nI a) 2 v = upd C (12 + 4 * a + 2) v := sA_k (k := 2) ha (by omega)
theorem sA_3 {C : aF} {a : Nat} {v : Int32} (ha : a < 10) : sA C (nI a) 3 v = upd C (12 + 4 * a + 3) v := sA_k (k := 3) ha (by omega)
theorem sH_0 {C : aF} {h : Nat} {v : Int32} (hh : h < 12) : sH C (nI h) 0 v = upd C (52 + 10 * h + 0) v := sH_k (k := 0) hh (by omega)
theorem sH_1 {C : aF} {h : Nat} {v : Int32} (hh : h < 12) : sH C (nI h) 1 v = upd C (52 + 10 * h + 1) v := sH_k (k := 1) hh (by omega)
theorem sH_2 {C : aF} {h : Nat} {v : Int32} (hh : h < 12) : sH C (nI h) 2 v = upd C (52 + 10 * h + 2) v := sH_k (k := 2) hh (by omega)
theorem sH_3 {C : aF} {h : Nat} {v : Int32} (hh : h < 12) : sH C (nI h) 3 v = upd C (52 + 10 * h + 3) v := sH_k (k := 3) hh (by omega)
theorem sH_4 {C : aF} {h : Nat} {v : Int32} (hh : h < 12) : sH C (nI h) 4 v = upd C (52 + 10 * h + 4) v := sH_k (k := 4) hh (by omega)
theorem sH_5 {C : aF} {h : Nat} {v : Int32} (hh : h < 12) : sH C (nI h) 5 v = upd C (52 + 10 * h + 5) v := sH_k (k := 5) hh (by omega)
theorem sH_6 {C : aF} {h : Nat} {v : Int32} (hh : h < 12) : sH C (nI h) 6 v = upd C (52 + 10 * h + 6) v := sH_k (k := 6) hh (by omega)
theorem sH_7 {C : aF} {h : Nat} {v : Int32} (hh : h < 12) : sH C (nI h) 7 v = upd C (52 + 10 * h + 7) v := sH_k (k := 7) hh (by omega)
theorem sH_8 {C : aF} {h : Nat} {v : Int32} (hh : h < 12) : sH C (nI h) 8 v = upd C (52 + 10 * h + 8) v := sH_k (k := 8) hh (by omega)
theorem sH_9 {C : aF} {h : Nat} {v : Int32} (hh : h < 12) : sH C (nI h) 9 v = upd C (52 + 10 * h + 9) v := sH_k (k := 9) hh (by omega)
theorem sP_0 {C : aF} {v : Int32} : sP C 0 v = upd C 0 v := sP_k (k := 0) (by omega)
theorem sP_1 {C : aF} {v : Int32} : sP C 1 v = upd C 1 v := sP_k (k := 1) (by omega)
theorem sP_2 {C : aF} {v : Int32} : sP C 2 v = upd C 2 v := sP_k (k := 2) (by omega)
theorem sP_3 {C : aF} {v : Int32} : sP C 3 v = upd C 3 v := sP_k (k := 3) (by omega)
theorem sP_4 {C : aF} {v : Int32} : sP C 4 v = upd C 4 v := sP_k (k := 4) (by omega)
theorem sP_5 {C : aF} {v : Int32} : sP C 5 v = upd C 5 v := sP_k (k := 5) (by omega)
theorem sP_6 {C : aF} {v : Int32} : sP C 6 v = upd C 6 v := sP_k (k := 6) (by omega)
theorem px_A0 {a : Nat} (ha : a < 10) : px (12 + 4 * a + 0) (10 + a) := by have := px_A a 0 ha (by omega); rwa [show 10 + 10 * 0 + a = 10 + a by omega] at this
theorem px_A1 {a : Nat} (ha : a < 10) : px (12 + 4 * a + 1) (20 + a) := by have := px_A a 1 ha (by omega); rwa [show 10 + 10 * 1 + a = 20 + a by omega] at this
theorem okc_A0 {nA nH nO a : Nat} {x : Int32} (hA : nA ≤ 10) (hH : nH ≤ 12) (hO : nO ≤ 12) (ha : a < 10) (h : iR x (-1000) 1000) : okc nA nH nO (10 + a) x := by have := okc_Axy (a := a) (k := 0) hA hH hO ha (by omega) h; rwa [show 10 + 10 * 0 + a = 10 + a by omega] at this
theorem okc_A1 {nA nH nO a : Nat} {x : Int32} (hA : nA ≤ 10) (hH : nH ≤ 12) (hO : nO ≤ 12) (ha : a < 10) (h : iR x (-1000) 1000) : okc nA nH nO (20 + a) x := by have := okc_Axy (a := a) (k := 1) hA hH hO ha (by omega) h; rwa [show 10 + 10 * 1 + a = 20 + a by omega] at this
theorem G_0 {C d : aF} (h : pX C d) : gG C 0 = d 0 := (gG_k C (k := 0) (by omega)).trans (h 0 0 (px_v 0 (by omega)))
theorem G_1 {C d : aF} (h : pX C d) : gG C 1 = d 1 := (gG_k C (k := 1) (by omega)).trans (h 1 1 (px_v 1 (by omega)))
theorem G_2 {C d : aF} (h : pX C d) : gG C 2 = d 2 := (gG_k C (k := 2) (by omega)).trans (h 2 2 (px_v 2 (by omega)))
theorem G_3 {C d : aF} (h : pX C d) : gG C 3 = d 3 := (gG_k C (k := 3) (by omega)).trans (h 3 3 (px_v 3 (by omega)))
theorem G_4 {C d : aF} (h : pX C d) : gG C 4 = d 9 := (gG_k C (k := 4) (by omega)).trans (h 4 9 px_nA)
theorem G_5 {C d : aF} (h : pX C d) : gG C 5 = d 50 := (gG_k C (k := 5) (by omega)).trans (h 5 50 px_nH)
theorem cm_cs {C d : aF} (h : pX C d) {x y : Int32} : q_cm C x y ↔ q_cs d x y := by unfold q_cm q_cs; rw [G_0 h, G_1 h]; exact Iff.rfl
theorem anc_iff {C d : aF} {nA : Nat} (h : pX C d) (e : d 9 = nI nA) (l : nA ≤ 10) {v : Int32} : q_rg v 0 (d 9 - 1) ↔ q_anchor C v := by unfold q_anchor; rw [G_4 h, e]; exact rgH (by omega)
theorem hin_iff {C d : aF} {nH : Nat} (h : pX C d) (e : d 50 = nI nH) (l : nH ≤ 12) {v : Int32} : q_rg v 0 (d 50 - 1) ↔ q_hint C v := by unfold q_hint; rw [G_5 h, e]; exact rgH (by omega)
theorem rg_ex {e v : Int32} {n : Nat} (he : e = nI n) (hn : n < 2 ^ 31) (h : q_rg v 0 (e - 1)) : ∃ a, a < n ∧ v = nI a := by
  rw [he] at h
  exact rg_nI hn ((rgH hn).mp h)
theorem st_iff {w v : Int32} : q_st w v ↔ (¬ w < 0 ∧ ¬ 5 ≤ w ∧ ¬ v < (if w = 2 then (1 : Int32) else 0) ∧ v ≤ v_hs w) := by
  constructor
  · rintro (⟨rfl, h⟩ | ⟨rfl, h⟩ | ⟨rfl, h⟩ | ⟨rfl, h⟩ | ⟨rfl, h⟩) <;> exact ⟨by decide, by decide, h.1, Int32.not_lt.mp h.2⟩
  · rintro ⟨h1, h2, h3, h4⟩
    obtain ⟨k, hk, rfl⟩ := rg_nI (v := w) (k := 5) (by omega) ⟨h1, h2⟩
    have h5 := Int32.not_lt.mpr h4
    rcases (show k = 0 ∨ k = 1 ∨ k = 2 ∨ k = 3 ∨ k = 4 by omega) with rfl | rfl | rfl | rfl | rfl
    · exact Or.inl ⟨rfl, h3, h5⟩
    · exact Or.inr (Or.inl ⟨rfl, h3, h5⟩)
    · exact Or.inr (Or.inr (Or.inl ⟨rfl, h3, h5⟩))
    · exact Or.inr (Or.inr (Or.inr (Or.inl ⟨rfl, h3, h5⟩)))
    · exact Or.inr (Or.inr (Or.inr (Or.inr ⟨rfl, h3, h5⟩)))
theorem st_R {k : Nat} {v : Int32} (hk : k < 5) (h : q_st (nI k) v) : (k = 0 → iR v 0 30) ∧ (k = 1 → iR v 0 20) ∧ (k = 2 → iR v 1 6) ∧ (k = 3 ∨ k = 4 → iR v 0 1) := by
  have key : ∀ j : Nat, j < 5 → nI k = nI j → k = j := fun j hj e => (nI_eq (by omega) (by omega)).mp e
  rcases h with ⟨e, h⟩ | ⟨e, h⟩ | ⟨e, h⟩ | ⟨e, h⟩ | ⟨e, h⟩
  · have := key 0 (by omega) e; subst this; exact ⟨fun _ => iR_rg h (by decide) (by decide), fun z => by omega, fun z => by omega, fun z => by omega⟩
  · have := key 1 (by omega) e; subst this; exact ⟨fun z => by omega, fun _ => iR_rg h (by decide) (by decide), fun z => by omega, fun z => by omega⟩
  · have := key 2 (by omega) e; subst this; exact ⟨fun z => by omega, fun z => by omega, fun _ => iR_rg h (by decide) (by decide), fun z => by omega⟩
  · have := key 3 (by omega) e; subst this; exact ⟨fun z => by omega, fun z => by omega, fun z => by omega, fun _ => iR_rg h (by decide) (by decide)⟩
  · have := key 4 (by omega) e; subst this; exact ⟨fun z => by omega, fun z => by omega, fun z => by omega, fun _ => iR_rg h (by decide) (by decide)⟩
theorem side_iff {s : Int32} : q_rg s 0 3 ↔ q_side s := by
  unfold q_rg q_side
  rw [Int32.not_lt, Int32.not_lt, Int32.not_le, Int32.le_iff_toInt_le, Int32.lt_iff_toInt_lt, Int32.le_iff_toInt_le, show (3 : Int32).toInt = 3 by decide, show (4 : Int32).toInt = 4 by decide]
  omega
theorem side_sd {s : Int32} (h : q_rg s 0 3) : sd s := by
  obtain ⟨j, hj, rfl⟩ := rg_nI (v := s) (k := 4) (by omega) (side_iff.mp h)
  rcases (show j = 0 ∨ j = 1 ∨ j = 2 ∨ j = 3 by omega) with rfl | rfl | rfl | rfl
  · exact Or.inl rfl
  · exact Or.inr (Or.inl rfl)
  · exact Or.inr (Or.inr (Or.inl rfl))
  · exact Or.inr (Or.inr (Or.inr rfl))
theorem of_iff {C d : aF} (h : pX C d) {w v : Int32} : q_of d w v ↔ (¬ w < 0 ∧ w < 8 ∧ ¬ v < v_lv w ∧ v ≤ v_hv C w) := by
  have e := G_4 h
  constructor
  · rintro (⟨rfl, h⟩ | ⟨rfl, h⟩ | ⟨rfl, h⟩ | ⟨rfl, h⟩ | ⟨rfl, h⟩ | ⟨rfl, h⟩ | ⟨rfl, h⟩ | ⟨rfl, h⟩)
    · rw [← e] at h; exact ⟨by decide, by decide, h.1, Int32.not_lt.mp h.2⟩
    all_goals exact ⟨by decide, by decide, h.1, Int32.not_lt.mp h.2⟩
  · rintro ⟨h1, h2, h3, h4⟩
    obtain ⟨k, hk, rfl⟩ := rg_nI (v := w) (k := 8) (by omega) ⟨h1, Int32.not_le.mpr h2⟩
    have h5 := Int32.not_lt.mpr h4
    rcases (show k = 0 ∨ k = 1 ∨ k = 2 ∨ k = 3 ∨ k = 4 ∨ k = 5 ∨ k = 6 ∨ k = 7 by omega) with rfl | rfl | rfl | rfl | rfl | rfl | rfl | rfl
    · refine Or.inl ⟨rfl, ?_⟩
      rw [← e]
      exact ⟨h3, h5⟩
    · exact Or.inr (Or.inl ⟨rfl, h3, h5⟩)
    · exact Or.inr (Or.inr (Or.inl ⟨rfl, h3, h5⟩))
    · exact Or.inr (Or.inr (Or.inr (Or.inl ⟨rfl, h3, h5⟩)))
    · exact Or.inr (Or.inr (Or.inr (Or.inr (Or.inl ⟨rfl, h3, h5⟩))))
    · exact Or.inr (Or.inr (Or.inr (Or.inr (Or.inr (Or.inl ⟨rfl, h3, h5⟩)))))
    · exact Or.inr (Or.inr (Or.inr (Or.inr (Or.inr (Or.inr (Or.inl ⟨rfl, h3, h5⟩))))))
    · exact Or.inr (Or.inr (Or.inr (Or.inr (Or.inr (Or.inr (Or.inr ⟨rfl, h3, h5⟩))))))
theorem of_ok {d : aF} {nA nH nO g k : Nat} {v : Int32} (hA : nA ≤ 10) (hH : nH ≤ 12) (hO : nO ≤ 12) (e : d 9 = nI nA) (hg : g < 12) (hk : k < 8) (h : q_of d (nI k) v) : okc nA nH nO (51 + 12 * k + g) v := by
  have key : ∀ j : Nat, j < 8 → nI k = nI j → k = j := fun j hj e => (nI_eq (by omega) (by omega)).mp e
  have void : ∀ {P : Prop} {a b : Nat}, a ≠ b → a = b → P := fun h z => absurd z h
  rcases h with ⟨q, h⟩ | ⟨q, h⟩ | ⟨q, h⟩ | ⟨q, h⟩ | ⟨q, h⟩ | ⟨q, h⟩ | ⟨q, h⟩ | ⟨q, h⟩
  · have := key 0 (by omega) q; subst this; exact okc_H hA hH hO hg hk (fun _ => rg_ex e (by omega) h) (fun z => by omega) (fun z => by omega) (fun z => by omega) (fun z => by omega) (fun z => by omega)
  · have := key 1 (by omega) q; subst this; exact okc_H hA hH hO hg hk (fun z => by omega) (fun _ => iR_rg h (by decide) (by decide)) (fun z => by omega) (fun z => by omega) (fun z => by omega) (fun z => by omega)
  · have := key 2 (by omega) q; subst this; exact okc_H hA hH hO hg hk (fun z => by omega) (fun _ => iR_rg h (by decide) (by decide)) (fun z => by omega) (fun z => by omega) (fun z => by omega) (fun z => by omega)
  · have := key 3 (by omega) q; subst this; exact okc_H hA hH hO hg hk (fun z => by omega) (fun z => by omega) (fun _ => side_sd h) (fun z => by omega) (fun z => by omega) (fun z => by omega)
  · have := key 4 (by omega) q; subst this; exact okc_H hA hH hO hg hk (fun z => by omega) (fun z => by omega) (fun z => by omega) (fun _ => iR_rg h (by decide) (by decide)) (fun z => by omega) (fun z => by omega)
  · have := key 5 (by omega) q; subst this; exact okc_H hA hH hO hg hk (fun z => by omega) (fun z => by omega) (fun z => by omega) (fun _ => iR_rg h (by decide) (by decide)) (fun z => by omega) (fun z => by omega)
  · have := key 6 (by omega) q; subst this; exact okc_H hA hH hO hg hk (fun z => by omega) (fun z => by omega) (fun z => by omega) (fun z => by omega) (fun _ => iR_rg h (by decide) (by decide)) (fun z => by omega)
  · have := key 7 (by omega) q; subst this; exact okc_H hA hH hO hg hk (fun z => by omega) (fun z => by omega) (fun z => by omega) (fun z => by omega) (fun z => by omega) (fun _ => iR_rg h (by decide) (by decide))
theorem pO_in {C d : aF} {nA nH nO B : Nat} (hw : wD d nA nH nO) (hO : rO C d nH nO B) {k : Nat} (hk : k < nH) (h : k ∈ ordL d nO) : ∃ p, p < nO ∧ op d p = k ∧ pO d (nI k) nO 0 = nI p := by
  unfold ordL at h
  rw [List.mem_reverse, ordR_mem] at h
  obtain ⟨p, hp, e⟩ := h
  refine ⟨p, hp, e.symm, pO_at ((op_of hw hp).2.trans (by rw [e])) (by omega) (by omega) (fun j h1 h2 z => ?_)⟩
  rw [(op_of hw (show j < nO by omega)).2, nI_eq (by have := (op_of hw (show j < nO by omega)).1; have := hw.2.1; omega) (by have := hw.2.1; omega)] at z
  have := rO_wI hO j p (by omega) hp (z.trans e)
  omega
theorem pO_out {C d : aF} {nA nH nO B : Nat} (hw : wD d nA nH nO) (hO : rO C d nH nO B) {k : Nat} (hk : k < nH) (h : ¬ k ∈ ordL d nO) : pO d (nI k) nO 0 = -1 := by
  refine pO_no (fun j h1 h2 z => h ?_)
  unfold ordL
  rw [List.mem_reverse, ordR_mem]
  refine ⟨j, by omega, ?_⟩
  rw [(op_of hw (show j < nO by omega)).2, nI_eq (by have := (op_of hw (show j < nO by omega)).1; have := hw.2.1; omega) (by have := hw.2.1; omega)] at z
  exact z.symm
theorem p_step_sd {d : aF} {nA nH nO : Nat} (hw : wD d nA nH nO) {S : aF × aF × Int32} (h : ∀ o, S.2.1 o = -1 ∨ sd (S.2.1 o)) {k : Nat} (hk : k < nH) : ∀ o, (p_step d nA nH S k).2.1 o = -1 ∨ sd ((p_step d nA nH S k).2.1 o) := by
  intro o
  unfold p_step
  by_cases q : q_sn d (p_an d k)
  · rw [iif_t q]
    split
    · show upd S.2.1 k _ o = -1 ∨ sd (upd S.2.1 k _ o)
      by_cases e : o = k
      · subst e
        rw [upd_at]
        exact p_try_sd d S.2.1 nA nH o _ 3 (tryL_sd (hw.2.2.2.2.2.2.2.1 o hk) (hw.2.2.2.2.2.2.2.2.1 o hk))
      · rw [upd_ne e]; exact h o
    · exact h o
  · rw [iif_f q]; exact h o
theorem p_run_sd {d : aF} {nA nH nO : Nat} (hw : wD d nA nH nO) : ∀ (L : List Nat) (S : aF × aF × Int32), (∀ x ∈ L, x < nH) → (∀ o, S.2.1 o = -1 ∨ sd (S.2.1 o)) → ∀ o, (p_run d nA nH S L).2.1 o = -1 ∨ sd ((p_run d nA nH S L).2.1 o)
  | [], _, _, h => h
  | x :: L, S, hL, h => p_run_sd hw L (p_step d nA nH S x) (fun y hy => hL y (List.mem_cons_of_mem _ hy)) (p_step_sd hw h (hL x List.mem_cons_self))
theorem p_all_sd {d : aF} {nA nH nO : Nat} (hw : wD d nA nH nO) (o : Nat) : (p_all d nA nH nO).2.1 o = -1 ∨ sd ((p_all d nA nH nO).2.1 o) := p_run_sd hw _ _ (fun x hx => ordL_mem hw hx) (fun _ => Or.inl rfl) o
theorem rX_rm {C d RS SD XS YS W on : aF} {nA nH nO B : Nat} (r : rX C d nA nH nO B) (s : sR d nH RS SD XS YS W on) (hs : ∀ o, on o = -1 ∨ sd (on o)) : ∀ k, k ≤ nH → rX (rmC C RS SD k) (rmb d on k) nA nH nO B
  | 0, _ => r
  | k + 1, hk => by
    have ih := rX_rm r s hs k (by omega)
    obtain ⟨l1, l2, l3, _⟩ := ih.1
    obtain ⟨s1, s2, s3⟩ := s k (by omega)
    show rX (iif (RS k = 0) (sH (rmC C RS SD k) (nI k) 9 (SD k)) (rmC C RS SD k)) (iif (on k = -1) (rmb d on k) (upd (rmb d on k) (160 + k) (on k))) nA nH nO B
    by_cases q : RS k = 0
    · have q2 := s2.mp q
      rw [iif_t q, iif_f q2, sH_9 (by omega), (s3 q2).1]
      exact rX_pair ih (px_M k (by omega)) (okc_M l1 l2 l3 (by omega) (hs k))
    · rw [iif_f q, iif_t (Classical.byContradiction fun z => q (s2.mpr z))]
      exact ih
theorem rm_cnt {C d RS SD XS YS W on : aF} {nA nH nO B : Nat} (r : rX C d nA nH nO B) (s : sR d nH RS SD XS YS W on) (hs : ∀ o, on o = -1 ∨ sd (on o)) : cP (rmP C RS SD) nH = cP (fun j => ¬ on j = -1 ∧ ¬ d (160 + j) = on j) nH := by
  refine cP_congr (fun o ho => ?_)
  have ih := rX_rm r s hs o (by omega)
  have l2 := ih.1.2.1
  obtain ⟨s1, s2, s3⟩ := s o ho
  unfold rmP
  rw [show gH (rmC C RS SD o) (nI o) 9 = d (160 + o) from (gH_k _ (k := 9) (by omega) (by omega)).trans ((ih.2.1 _ _ (px_M o (by omega))).trans (rmb_ne (by omega))), s2]
  constructor
  · rintro ⟨a, b⟩; exact ⟨a, fun z => b (z.trans (s3 a).1.symm)⟩
  · rintro ⟨a, b⟩; exact ⟨a, fun z => b (z.trans (s3 a).1)⟩
theorem mCt_val {K : mM} {as : List Value} {H H' : List mC} {r r' : Int32} (e : r = r') (h : mCt K as H (some (.int r)) H') : mCt K as H (some (.int r')) H' := e ▸ h
theorem q_mt_sym {x y w h ox oy ow oh : Int32} : q_mt x y w h ox oy ow oh ↔ q_mt ox oy ow oh x y w h := by
  unfold q_mt
  exact ⟨fun ⟨⟨a, b⟩, c, d⟩ => ⟨⟨b, a⟩, d, c⟩, fun ⟨⟨a, b⟩, c, d⟩ => ⟨⟨b, a⟩, d, c⟩⟩
theorem as_sn {C d : aF} {nA nH nO : Nat} (bc : bC C d nA nH nO) (hp : pX C d) {a : Nat} (ha : a < nA) : q_as C (nI a) ↔ q_sn d a := by
  unfold q_as q_sn
  rw [G_0 hp, G_1 hp, G_2 hp, G_3 hp, bc.hA a _ _ _ _ ha]
  exact q_mt_sym
theorem cnt_upd {on : aF} {h n : Nat} {s : Int32} (h0 : on h = -1) (hs : ¬ s = -1) (hh : h < n) : cN (fun k => ¬ upd on h s k = -1) n = cN (fun k => ¬ on k = -1) n + 1 := by
  refine cN_ins (x := h) (fun o => ?_) (fun z => z h0) n hh
  by_cases e : o = h
  · subst e; rw [upd_at]; exact ⟨fun _ => Or.inl rfl, fun _ => hs⟩
  · rw [upd_ne e]; exact ⟨Or.inr, fun z => z.resolve_left e⟩
theorem p_run_cnt {d : aF} {nA nH : Nat} : ∀ (L : List Nat) (W on : aF) (c : Nat), L.Nodup → (∀ x ∈ L, x < nH ∧ on x = -1) → c = cN (fun k => ¬ on k = -1) nH → (p_run d nA nH (W, on, nI c) L).2.2 = nI (cN (fun k => ¬ (p_run d nA nH (W, on, nI c) L).2.1 k = -1) nH)
  | [], W, on, c, _, _, hc => by
    show nI c = nI (cN (fun k => ¬ on k = -1) nH)
    rw [hc]
  | x :: L, W, on, c, hn, hL, hc => by
    obtain ⟨n1, n2⟩ := List.nodup_cons.mp hn
    obtain ⟨hx, h0⟩ := hL x List.mem_cons_self
    have e := p_step_tR (d := d) (nA := nA) (nH := nH) (W := W) (shn := nI c) h0
    have hL2 : ∀ y ∈ L, y < nH ∧ upd on x (tR d on nA nH (nI c) x).2 y = -1 := fun y hy => by
      have q := hL y (List.mem_cons_of_mem _ hy)
      have hyx : y ≠ x := fun z => by rw [z] at hy; exact n1 hy
      exact ⟨q.1, by rw [upd_ne hyx]; exact q.2⟩
    show (p_run d nA nH (p_step d nA nH (W, on, nI c) x) L).2.2 = nI (cN (fun k => ¬ (p_run d nA nH (p_step d nA nH (W, on, nI c) x) L).2.1 k = -1) nH)
    rw [e]
    by_cases g : (tR d on nA nH (nI c) x).2 = -1
    · rw [if_pos g]
      exact p_run_cnt L _ _ c n2 hL2 (by rw [g, upd_same h0]; exact hc)
    · rw [if_neg g, nI_1]
      exact p_run_cnt L _ _ (c + 1) n2 hL2 (by rw [cnt_upd h0 g hx, hc])
theorem p_all_cnt {d : aF} {nA nH nO : Nat} (hw : wD d nA nH nO) (hi : wI d nO) : (p_all d nA nH nO).2.2 = cP (fun k => ¬ (p_all d nA nH nO).2.1 k = -1) nH := by
  rw [cP_nI]
  exact p_run_cnt (ordL d nO) _ _ 0 (ordL_nodup hi) (fun x hx => ⟨ordL_mem hw hx, rfl⟩) (cN_F (fun o z => z rfl) nH).symm
theorem fT_aT {P : Nat → Prop} {d on : aF} {x y : Int32} : ∀ {m k : Nat}, k + m < 1000 → (∀ o, k ≤ o → o < k + m → (P o ↔ (¬ on o = -1 ∧ q_mt x y 1 1 (p_x d o (on o)) (p_y d o (on o)) (dH d o 1) (dH d o 2)))) → (if fT P m k < 0 then -10004 else fT P m k) = aT d on x y m k
  | 0, k, _, _ => by
    show (if (-1 : Int32) < 0 then (-10004 : Int32) else -1) = -10004
    rw [if_pos (by decide)]
  | m + 1, k, hk, h => by
    show (if iif (P k) (nI k) (fT P m (k + 1)) < 0 then -10004 else iif (P k) (nI k) (fT P m (k + 1))) = iif _ (nI k) (aT d on x y m (k + 1))
    by_cases q : P k
    · rw [iif_t q, iif_t ((h k (Nat.le_refl _) (by omega)).mp q), if_neg (nI_pos (by omega))]
    · rw [iif_f q, iif_f (fun z => q ((h k (Nat.le_refl _) (by omega)).mpr z))]
      exact fT_aT (by omega) (fun o h1 h2 => h o (by omega) (by omega))
theorem rK_v {C d : aF} {i : Nat} {v : Int32} (h : rK C d) (hi : i = 2 ∨ i = 3) : rK C (upd d i v) := by
  obtain ⟨a1, a2, a3, a4, a5, a6, a7, a8⟩ := h
  refine ⟨by rw [upd_ne (by omega)]; exact a1, by rw [upd_ne (by omega)]; exact a2, by rw [upd_ne (by omega)]; exact a3, by rw [upd_ne (by omega)]; exact a4, fun k hk => by rw [upd_ne (by omega)]; exact a5 k hk, fun a k ha hk => ?_, fun g k hg hk => ?_, fun g hg => by rw [upd_ne (by omega)]; exact a8 g hg⟩
  · unfold dA; rw [upd_ne (by omega)]; exact a6 a k ha hk
  · unfold dH; rw [upd_ne (by omega)]; exact a7 g k hg hk
theorem cF_sF {P : Nat → Prop} {d : aF} {h w : Nat} {L : List Int32} : ∀ {m k : Nat}, (∀ j, k ≤ j → j < k + m → (P j ↔ sI d h w (nI j) L)) → cF P m k = sF d h w L m k
  | 0, _, _ => rfl
  | m + 1, k, h' => by
    show iif (P k) _ _ = iif (sI d h w (nI k) L) _ _
    rw [propext (h' k (Nat.le_refl _) (by omega)), cF_sF (fun j h1 h2 => h' j (by omega) (by omega))]
theorem e_room (a b c e : Int32) : a - (b + c + e) = a - b - c - e := by rw [m_shift, m_shift]
