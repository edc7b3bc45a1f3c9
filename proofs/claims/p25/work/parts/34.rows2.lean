/-! THE TWO ROWS: a hint more, opened, closed; the states before -/
theorem okc_nH {nA nH nO c : Nat} {x : Int32} (hA : nA ≤ 10) (hH : nH < 12) (hO : nO ≤ 12) (h : okc nA nH nO c x) (h9 : c ≠ 50) (h0 : c = 51 + nH → ∃ a, a < nA ∧ x = nI a) (h1 : c = 63 + nH ∨ c = 75 + nH → iR x 1 200) (h3 : c = 87 + nH → sd x) (h4 : c = 99 + nH ∨ c = 111 + nH → iR x 0 2) (h6 : c = 123 + nH → iR x 0 1) (h7 : c = 135 + nH → iR x 0 9) (h8 : c = 160 + nH → x = -1 ∨ sd x) : okc nA (nH + 1) nO c x := by
  obtain ⟨k0, k1, k2, k3, k4, k5, k6, k7, k8, k9, k10, k11, k12, k13, k14, k15, k16, k17, k18⟩ := h
  refine ⟨k0, fun z => absurd z h9, k2, k3, k4, k5, k6, k7, k8, k9, k10, fun g hg hc => ?_, fun g hg hc => ?_, fun g hg hc => ?_, fun g hg hc => ?_, fun g hg hc => ?_, fun g hg hc => ?_, fun g hg hc => ?_, fun j hj hc => ?_⟩
  · by_cases e : g = nH
    · subst e; exact h0 hc
    · exact k11 g (by omega) hc
  · by_cases e : g = nH
    · subst e; exact h1 hc
    · exact k12 g (by omega) hc
  · by_cases e : g = nH
    · subst e; exact h3 hc
    · exact k13 g (by omega) hc
  · by_cases e : g = nH
    · subst e; exact h4 hc
    · exact k14 g (by omega) hc
  · by_cases e : g = nH
    · subst e; exact h6 hc
    · exact k15 g (by omega) hc
  · by_cases e : g = nH
    · subst e; exact h7 hc
    · exact k16 g (by omega) hc
  · by_cases e : g = nH
    · subst e; exact h8 hc
    · exact k17 g (by omega) hc
  · obtain ⟨g, hg, e⟩ := k18 j hj hc
    exact ⟨g, by omega, e⟩
def ovS (ov : Nat → Nat) (k v : Nat) : Nat → Nat := fun x => if x = k then v else ov x
theorem ovS_at {ov : Nat → Nat} {k v : Nat} : ovS ov k v k = v := if_pos rfl
theorem ovS_ne {ov : Nat → Nat} {k v x : Nat} (h : x ≠ k) : ovS ov k v x = ov x := if_neg h
theorem iR0 {hi : Int} (h : 0 ≤ hi) : iR 0 0 hi := by unfold iR; rw [Int32.toInt_zero]; exact ⟨Int.le_refl _, h⟩
/-- the cells of a hint to be, set while it does not count yet -/
theorem okc_Hn {nA nH nO k : Nat} {x : Int32} (hA : nA ≤ 10) (hH : nH < 12) (hO : nO ≤ 12) (hk : k < 8) : okc nA nH nO (51 + 12 * k + nH) x := ⟨fun _ => by omega, fun _ => by omega, fun _ => by omega, fun _ => by omega, fun _ => by omega, fun _ => by omega, fun _ => by omega, fun _ => by omega, fun _ => by omega, fun _ _ _ => by omega, fun _ _ _ => by omega, fun _ _ _ => by omega, fun _ _ _ => by omega, fun _ _ _ => by omega, fun _ _ _ => by omega, fun _ _ _ => by omega, fun _ _ _ => by omega, fun _ _ _ => by omega, fun _ _ _ => by omega⟩
theorem okc_Mn {nA nH nO : Nat} {x : Int32} (hA : nA ≤ 10) (hH : nH < 12) (hO : nO ≤ 12) : okc nA nH nO (160 + nH) x := ⟨fun _ => by omega, fun _ => by omega, fun _ => by omega, fun _ => by omega, fun _ => by omega, fun _ => by omega, fun _ => by omega, fun _ => by omega, fun _ => by omega, fun _ _ _ => by omega, fun _ _ _ => by omega, fun _ _ _ => by omega, fun _ _ _ => by omega, fun _ _ _ => by omega, fun _ _ _ => by omega, fun _ _ _ => by omega, fun _ _ _ => by omega, fun _ _ _ => by omega, fun _ _ _ => by omega⟩
theorem rX_hint {C d : aF} {nA nH nO B : Nat} {v w t s g : Int32} (h : rX C d nA nH nO B) (hH : nH < 12) (h0 : ∃ a, a < nA ∧ v = nI a) (h1 : iR w 1 200) (h2 : iR t 1 200) (h3 : sd s) (h4 : iR g 0 2) : rX (upd (upd (upd (upd (upd (upd (upd (upd (upd (upd (upd C 5 (nI (nH + 1))) (52 + 10 * nH + 0) v) (52 + 10 * nH + 1) w) (52 + 10 * nH + 2) t) (52 + 10 * nH + 3) s) (52 + 10 * nH + 4) g) (52 + 10 * nH + 5) 0) (52 + 10 * nH + 6) 0) (52 + 10 * nH + 7) 0) (52 + 10 * nH + 8) 0) (52 + 10 * nH + 9) (-1)) (upd (upd (upd (upd (upd (upd (upd (upd (upd (upd (d) (51 + nH) v) (63 + nH) w) (75 + nH) t) (87 + nH) s) (99 + nH) g) (111 + nH) 0) (123 + nH) 0) (135 + nH) 0) (160 + nH) (-1)) 50 (nI (nH + 1))) nA (nH + 1) nO B := by
  have e : upd (upd (upd (upd (upd (upd (upd (upd (upd (upd (d) (51 + nH) v) (63 + nH) w) (75 + nH) t) (87 + nH) s) (99 + nH) g) (111 + nH) 0) (123 + nH) 0) (135 + nH) 0) (160 + nH) (-1)) 50 (nI (nH + 1)) = upd (upd (upd (upd (upd (upd (upd (upd (upd (upd d 50 (nI (nH + 1))) (51 + 12 * 0 + nH) v) (51 + 12 * 1 + nH) w) (51 + 12 * 2 + nH) t) (51 + 12 * 3 + nH) s) (51 + 12 * 4 + nH) g) (51 + 12 * 5 + nH) 0) (51 + 12 * 6 + nH) 0) (51 + 12 * 7 + nH) 0) (160 + nH) (-1) := by
    funext c
    unfold upd
    simp only [show 51 + 12 * 0 + nH = 51 + nH by omega, show 51 + 12 * 1 + nH = 63 + nH by omega, show 51 + 12 * 2 + nH = 75 + nH by omega, show 51 + 12 * 3 + nH = 87 + nH by omega, show 51 + 12 * 4 + nH = 99 + nH by omega, show 51 + 12 * 5 + nH = 111 + nH by omega, show 51 + 12 * 6 + nH = 123 + nH by omega, show 51 + 12 * 7 + nH = 135 + nH by omega]
    by_cases e0 : c = 50
    · subst e0
      rw [if_pos rfl, if_neg (by omega), if_neg (by omega), if_neg (by omega), if_neg (by omega), if_neg (by omega), if_neg (by omega), if_neg (by omega), if_neg (by omega), if_neg (by omega), if_pos rfl]
    · rw [if_neg e0, if_neg e0]
  have hD : ∀ c, c ≠ 50 → (upd (upd (upd (upd (upd (upd (upd (upd (upd (upd (d) (51 + nH) v) (63 + nH) w) (75 + nH) t) (87 + nH) s) (99 + nH) g) (111 + nH) 0) (123 + nH) 0) (135 + nH) 0) (160 + nH) (-1)) 50 (nI (nH + 1))) c = (upd (upd (upd (upd (upd (upd (upd (upd (upd (d) (51 + nH) v) (63 + nH) w) (75 + nH) t) (87 + nH) s) (99 + nH) g) (111 + nH) 0) (123 + nH) 0) (135 + nH) 0) (160 + nH) (-1)) c := fun c hc => upd_ne hc
  obtain ⟨hw, hp, ho⟩ := h
  obtain ⟨l1, l2, l3, hw0⟩ := id hw
  have k0 := wX_upd (i := 51 + 12 * 0 + nH) (v := v) hw (okc_Hn l1 hH l3 (by omega))
  have k1 := wX_upd (i := 51 + 12 * 1 + nH) (v := w) k0 (okc_Hn l1 hH l3 (by omega))
  have k2 := wX_upd (i := 51 + 12 * 2 + nH) (v := t) k1 (okc_Hn l1 hH l3 (by omega))
  have k3 := wX_upd (i := 51 + 12 * 3 + nH) (v := s) k2 (okc_Hn l1 hH l3 (by omega))
  have k4 := wX_upd (i := 51 + 12 * 4 + nH) (v := g) k3 (okc_Hn l1 hH l3 (by omega))
  have k5 := wX_upd (i := 51 + 12 * 5 + nH) (v := 0) k4 (okc_Hn l1 hH l3 (by omega))
  have k6 := wX_upd (i := 51 + 12 * 6 + nH) (v := 0) k5 (okc_Hn l1 hH l3 (by omega))
  have k7 := wX_upd (i := 51 + 12 * 7 + nH) (v := 0) k6 (okc_Hn l1 hH l3 (by omega))
  have k8 := wX_upd (i := 160 + nH) (v := -1) k7 (okc_Mn l1 hH l3)
  rw [show 51 + 12 * 0 + nH = 51 + nH by omega, show 51 + 12 * 1 + nH = 63 + nH by omega, show 51 + 12 * 2 + nH = 75 + nH by omega, show 51 + 12 * 3 + nH = 87 + nH by omega, show 51 + 12 * 4 + nH = 99 + nH by omega, show 51 + 12 * 5 + nH = 111 + nH by omega, show 51 + 12 * 6 + nH = 123 + nH by omega, show 51 + 12 * 7 + nH = 135 + nH by omega] at k8
  refine ⟨⟨l1, by omega, l3, fun c hc => ?_⟩, ?_, ?_⟩
  · by_cases e0 : c = 50
    · subst e0
      rw [upd_at]
      exact ⟨fun _ => by omega, fun _ => rfl, fun _ => by omega, fun _ => by omega, fun _ => by omega, fun _ => by omega, fun _ => by omega, fun _ => by omega, fun _ => by omega, fun _ _ _ => by omega, fun _ _ _ => by omega, fun _ _ _ => by omega, fun _ _ _ => by omega, fun _ _ _ => by omega, fun _ _ _ => by omega, fun _ _ _ => by omega, fun _ _ _ => by omega, fun _ _ _ => by omega, fun _ _ _ => by omega⟩
    · rw [hD c e0]
      refine okc_nH l1 hH l3 (k8.2.2.2 c hc) e0 ?_ ?_ ?_ ?_ ?_ ?_ ?_
      · rintro rfl; simp (disch := omega) only [upd_ne, upd_at]; exact h0
      · rintro (rfl | rfl) <;> simp (disch := omega) only [upd_ne, upd_at] <;> assumption
      · rintro rfl; simp (disch := omega) only [upd_ne, upd_at]; exact h3
      · rintro (rfl | rfl) <;> simp (disch := omega) only [upd_ne, upd_at]
        · exact h4
        · exact iR0 (by omega)
      · rintro rfl; simp (disch := omega) only [upd_ne, upd_at]; exact iR0 (by omega)
      · rintro rfl; simp (disch := omega) only [upd_ne, upd_at]; exact iR0 (by omega)
      · rintro rfl; simp (disch := omega) only [upd_ne, upd_at]; exact Or.inl trivial
  · rw [e]
    have no8 : ∀ j, ¬ px (52 + 10 * nH + 8) j := fun j z => (px_lt z).2.2.2.1 nH hH rfl
    exact pX_upd (pX_C (pX_upd (pX_upd (pX_upd (pX_upd (pX_upd (pX_upd (pX_upd (pX_upd (pX_upd hp px_nH) (px_H nH 0 hH (by omega))) (px_H nH 1 hH (by omega))) (px_H nH 2 hH (by omega))) (px_H nH 3 hH (by omega))) (px_H nH 4 hH (by omega))) (px_H nH 5 hH (by omega))) (px_H nH 6 hH (by omega))) (px_H nH 7 hH (by omega))) no8) (px_M nH hH)
  · obtain ⟨ov, Q, q1, q2, q3, q4, q5⟩ := ho
    have hopn : ∀ j, j < nO → op d j < nH := fun j hj => (op_of (wX_wD hw).1 hj).1
    have hop : ∀ j, j < nO → op (upd (upd (upd (upd (upd (upd (upd (upd (upd (upd (d) (51 + nH) v) (63 + nH) w) (75 + nH) t) (87 + nH) s) (99 + nH) g) (111 + nH) 0) (123 + nH) 0) (135 + nH) 0) (160 + nH) (-1)) 50 (nI (nH + 1))) j = op d j := fun j hj => by
      unfold op
      simp (disch := omega) only [upd_ne]
    refine ⟨ovS ov nH 0, Q, ?_, q2, fun x hx => ?_, fun x hx => ?_, fun i j hij hj => ?_⟩
    · simp (disch := omega) only [upd_ne]; exact q1
    · by_cases ex : x = nH
      · subst ex
        rw [ovS_at]
        simp (disch := omega) only [upd_ne, upd_at]
        exact ⟨rfl, by omega⟩
      · rw [ovS_ne ex]
        simp (disch := omega) only [upd_ne]
        exact q3 x hx
    · by_cases ex : x = nH
      · subst ex
        rw [ovS_at]
        refine ⟨fun z => absurd rfl z, ?_⟩
        rintro ⟨j, hj, z⟩
        rw [hop j hj] at z
        have := hopn j hj
        omega
      · rw [ovS_ne ex, q4 x (by omega)]
        constructor
        · rintro ⟨j, hj, z⟩; exact ⟨j, hj, (hop j hj).trans z⟩
        · rintro ⟨j, hj, z⟩; exact ⟨j, hj, (hop j hj).symm.trans z⟩
    · have h1' := hopn i (by omega)
      have h2' := hopn j hj
      rw [hop i (by omega), hop j hj, ovS_ne (by omega), ovS_ne (by omega)]
      exact q5 i j hij hj
/-- fewer hints are open than there are, if one is not -/
theorem nO_lt {C d : aF} {nA nH nO B : Nat} (hB : B < 2 ^ 30) (h : rX C d nA nH nO B) {k : Nat} (hk : k < nH) (hc : ¬ q_open C (nI k)) : nO < nH := by
  have R := rX_rC h
  have hm : ¬ k ∈ ordL d nO := fun z => hc ((open_iff R.1 hB h.2.2 hk).mpr z)
  have hn : (k :: ordL d nO).Nodup := List.nodup_cons.mpr ⟨hm, ordL_nodup (rO_wI h.2.2)⟩
  have e := cN_mem (n := nH) (k :: ordL d nO) hn (fun x hx => (List.mem_cons.mp hx).elim (fun z => z ▸ hk) (fun z => ordL_mem R.1 z))
  have l := cN_le (fun o => o ∈ k :: ordL d nO) nH
  rw [e, List.length_cons, ordL_len] at l
  omega
theorem open_ov {C : aF} {ov : Nat → Nat} {Q k : Nat} (hk : k < 12) (hQ : Q < 2 ^ 30) (q3 : ∀ h, h < 12 → C (52 + 10 * h + 8) = nI (ov h) ∧ ov h ≤ Q) : q_open C (nI k) ↔ ¬ ov k = 0 := by
  unfold q_open
  rw [show gH C (nI k) 8 = nI (ov k) from (gH_k C (k := 8) hk (by decide)).trans (q3 k hk).1, show (0 : Int32) = nI 0 from rfl, nI_eq (by have := (q3 k hk).2; omega) (by omega)]
theorem rX_open {C d : aF} {nA nH nO B : Nat} (hB : B < 2 ^ 29) (h : rX C d nA nH nO B) {k : Nat} (hk : k < nH) (hc : ¬ q_open C (nI k)) : rX (upd (upd C 6 (C 6 + 1)) (52 + 10 * k + 8) (C 6 + 1)) (upd (upd d (148 + nO) (nI k)) 147 (nI (nO + 1))) nA nH (nO + 1) (B + 1) := by
  have hlt := nO_lt (by omega) h hk hc
  obtain ⟨hw, hp, ho⟩ := h
  obtain ⟨l1, l2, l3, hw0⟩ := id hw
  obtain ⟨ov, Q, q1, q2, q3, q4, q5⟩ := ho
  have k0 : ov k = 0 := Classical.byContradiction fun z => hc ((open_ov (by omega) (by omega) q3).mpr z)
  have hopk : ∀ j, j < nO → op d j ≠ k := fun j hj z => ((q4 k hk).mpr ⟨j, hj, z⟩) k0
  have hop : ∀ j, j < nO → op (upd (upd d (148 + nO) (nI k)) 147 (nI (nO + 1))) j = op d j := fun j hj => by
    unfold op
    rw [upd_ne (by omega), upd_ne (by omega)]
  have hopn : op (upd (upd d (148 + nO) (nI k)) 147 (nI (nO + 1))) nO = k := by
    unfold op
    rw [upd_ne (by omega), upd_at, nI_clamp (by omega)]
  have e6 : C 6 + 1 = nI (Q + 1) := by rw [q1, nI_1]
  refine ⟨⟨l1, l2, by omega, fun c hc' => ?_⟩, ?_, ?_⟩
  · by_cases e0 : c = 147
    · subst e0
      rw [upd_at]
      exact ⟨fun _ => by omega, fun _ => by omega, fun _ => rfl, fun _ => by omega, fun _ => by omega, fun _ => by omega, fun _ => by omega, fun _ => by omega, fun _ => by omega, fun _ _ _ => by omega, fun _ _ _ => by omega, fun _ _ _ => by omega, fun _ _ _ => by omega, fun _ _ _ => by omega, fun _ _ _ => by omega, fun _ _ _ => by omega, fun _ _ _ => by omega, fun _ _ _ => by omega, fun _ _ _ => by omega⟩
    · rw [upd_ne e0]
      obtain ⟨k0, k1, k2, k3, k4, k5, k6, k7, k8, k9, k10, k11, k12, k13, k14, k15, k16, k17, k18⟩ := (wX_upd (i := 148 + nO) (v := nI k) hw ⟨fun _ => by omega, fun _ => by omega, fun _ => by omega, fun _ => by omega, fun _ => by omega, fun _ => by omega, fun _ => by omega, fun _ => by omega, fun _ => by omega, fun _ _ _ => by omega, fun _ _ _ => by omega, fun _ _ _ => by omega, fun _ _ _ => by omega, fun _ _ _ => by omega, fun _ _ _ => by omega, fun _ _ _ => by omega, fun _ _ _ => by omega, fun _ _ _ => by omega, fun _ _ _ => by omega⟩).2.2.2 c hc'
      refine ⟨k0, k1, fun z => absurd z e0, k3, k4, k5, k6, k7, k8, k9, k10, k11, k12, k13, k14, k15, k16, k17, fun j hj hcj => ?_⟩
      by_cases ej : j = nO
      · subst ej
        rw [hcj, upd_at]
        exact ⟨k, hk, rfl⟩
      · exact k18 j (by omega) hcj
  · have n1 : ∀ i, ¬ px i (148 + nO) := fun i z => (px_lt z).2.2.2.2 nO (by omega) rfl
    have n2 : ∀ i, ¬ px i 147 := by
      rintro i (⟨h1, h2⟩ | ⟨h1, h2⟩ | ⟨h1, h2⟩ | ⟨k, hk, h1, h2⟩ | ⟨a, k, ha, hk, h1, h2⟩ | ⟨g, k, hg, hk, h1, h2⟩ | ⟨g, hg, h1, h2⟩) <;> omega
    have n3 : ∀ j, ¬ px 6 j := fun j z => (px_lt z).2.2.1 rfl
    have n4 : ∀ j, ¬ px (52 + 10 * k + 8) j := fun j z => (px_lt z).2.2.2.1 k (by omega) rfl
    exact pX_C (pX_C (pX_d (pX_d hp n1) n2) n3) n4
  · refine ⟨ovS ov k (Q + 1), Q + 1, ?_, by omega, fun x hx => ?_, fun x hx => ?_, fun i j hij hj => ?_⟩
    · rw [upd_ne (by omega), upd_at, e6]
    · by_cases ex : x = k
      · subst ex; rw [ovS_at, upd_at, e6]; exact ⟨rfl, Nat.le_refl _⟩
      · rw [ovS_ne ex, upd_ne (by omega), upd_ne (by omega)]
        have := q3 x hx
        exact ⟨this.1, by omega⟩
    · by_cases ex : x = k
      · subst ex
        rw [ovS_at]
        exact ⟨fun _ => ⟨nO, by omega, hopn⟩, fun _ => by omega⟩
      · rw [ovS_ne ex, q4 x hx]
        constructor
        · rintro ⟨j, hj, z⟩; exact ⟨j, by omega, (hop j hj).trans z⟩
        · rintro ⟨j, hj, z⟩
          by_cases ej : j = nO
          · subst ej; rw [hopn] at z; exact absurd z.symm ex
          · exact ⟨j, by omega, (hop j (by omega)).symm.trans z⟩
    · have hi1 : i < nO := by omega
      rw [hop i hi1, ovS_ne (hopk i hi1)]
      by_cases ej : j = nO
      · subst ej
        rw [hopn, ovS_at]
        have := (q3 (op d i) (by have := (op_of (wX_wD hw).1 hi1).1; omega)).2
        omega
      · rw [hop j (by omega), ovS_ne (hopk j (by omega))]
        exact q5 i j hij (by omega)
theorem pO_no {d : aF} {v : Int32} : ∀ {m k : Nat}, (∀ j, k ≤ j → j < k + m → ¬ d (148 + j) = v) → pO d v m k = -1
  | 0, _, _ => rfl
  | m + 1, k, h => by
    show (if _ then _ else _) = _
    rw [if_neg (h k (by omega) (by omega)), pO_no (fun j h1 h2 => h j (by omega) (by omega))]
theorem pO_at {d : aF} {v : Int32} {p : Nat} (hp : d (148 + p) = v) : ∀ {m k : Nat}, k ≤ p → p < k + m → (∀ j, k ≤ j → j < p → ¬ d (148 + j) = v) → pO d v m k = nI p
  | 0, k, h1, h2, _ => by omega
  | m + 1, k, h1, h2, h => by
    show (if _ then _ else _) = _
    by_cases e : k = p
    · subst e; rw [if_pos hp]
    · rw [if_neg (h k (by omega) (by omega)), pO_at hp (by omega) (by omega) (fun j h3 h4 => h j (by omega) h4)]
theorem rX_close {C d : aF} {nA nH n1 B : Nat} (hB : B < 2 ^ 29) (h : rX C d nA nH (n1 + 1) B) {k p : Nat} (hk : k < nH) (hp1 : p ≤ n1) (hop : op d p = k) : rX (upd (upd C (52 + 10 * k + 8) 0) (52 + 10 * k + 9) (-1)) (upd (shO (upd d 147 (nI n1)) p (n1 - p)) (160 + k) (-1)) nA nH n1 B := by
  obtain ⟨hw, hp, ho⟩ := h
  obtain ⟨l1, l2, l3, hw0⟩ := id hw
  have hI := rO_wI ho
  obtain ⟨ov, Q, q1, q2, q3, q4, q5⟩ := ho
  have hs : ∀ c, (c < 148 + p ∨ 148 + n1 ≤ c) → c ≠ 147 → shO (upd d 147 (nI n1)) p (n1 - p) c = d c := fun c hc hc2 => by
    unfold shO
    rw [if_neg (by omega), upd_ne hc2]
  have hs2 : ∀ j, p ≤ j → j < n1 → shO (upd d 147 (nI n1)) p (n1 - p) (148 + j) = d (148 + (j + 1)) := fun j h1 h2 => by
    unfold shO
    rw [if_pos (by omega), upd_ne (by omega)]
    rfl
  have hop1 : ∀ j, j < n1 → op (upd (shO (upd d 147 (nI n1)) p (n1 - p)) (160 + k) (-1)) j = op d (if j < p then j else j + 1) := fun j hj => by
    unfold op
    rw [upd_ne (by omega)]
    by_cases e : j < p
    · rw [if_pos e, hs _ (by omega) (by omega)]
    · rw [if_neg e, hs2 j (by omega) hj]
  have hpx : pX (upd (upd C (52 + 10 * k + 8) 0) (52 + 10 * k + 9) (-1)) (upd (shO (upd d 147 (nI n1)) p (n1 - p)) (160 + k) (-1)) := by
    have n4 : ∀ j, ¬ px (52 + 10 * k + 8) j := fun j z => (px_lt z).2.2.2.1 k (by omega) rfl
    refine pX_upd (pX_C ?_ n4) (px_M k (by omega))
    intro i j hij
    have hj := (px_lt hij).2.2.2.2
    have n2 : j ≠ 147 := by
      rcases hij with (⟨h1, h2⟩ | ⟨h1, h2⟩ | ⟨h1, h2⟩ | ⟨k, hk, h1, h2⟩ | ⟨a, k, ha, hk, h1, h2⟩ | ⟨g, k, hg, hk, h1, h2⟩ | ⟨g, hg, h1, h2⟩) <;> omega
    rw [hs j (by
      rcases Nat.lt_or_ge j (148 + p) with z | z
      · exact Or.inl z
      · rcases Nat.lt_or_ge j (148 + n1) with z2 | z2
        · exact absurd (show j = 148 + (j - 148) by omega) (hj (j - 148) (by omega))
        · exact Or.inr z2) n2]
    exact hp i j hij
  refine ⟨⟨l1, l2, by omega, fun c hc' => ?_⟩, hpx, ?_⟩
  · by_cases e1 : c = 160 + k
    · rw [e1, upd_at]; exact okc_M l1 l2 (by omega) (by omega) (Or.inl rfl)
    · rw [upd_ne e1]
      by_cases e0 : c = 147
      · subst e0
        have : shO (upd d 147 (nI n1)) p (n1 - p) 147 = nI n1 := by unfold shO; rw [if_neg (by omega), upd_at]
        rw [this]
        exact ⟨fun _ => by omega, fun _ => by omega, fun _ => rfl, fun _ => by omega, fun _ => by omega, fun _ => by omega, fun _ => by omega, fun _ => by omega, fun _ => by omega, fun _ _ _ => by omega, fun _ _ _ => by omega, fun _ _ _ => by omega, fun _ _ _ => by omega, fun _ _ _ => by omega, fun _ _ _ => by omega, fun _ _ _ => by omega, fun _ _ _ => by omega, fun _ _ _ => by omega, fun _ _ _ => by omega⟩
      · by_cases e2 : 148 + p ≤ c ∧ c < 148 + n1
        · have e3 := hs2 (c - 148) (by omega) (by omega)
          rw [show 148 + (c - 148) = c by omega] at e3
          rw [e3]
          obtain ⟨g, hg, eg⟩ := (hw0 (148 + (c - 148 + 1)) (by omega)).2.2.2.2.2.2.2.2.2.2.2.2.2.2.2.2.2.2 (c - 148 + 1) (by omega) rfl
          exact ⟨fun _ => by omega, fun _ => by omega, fun _ => by omega, fun _ => by omega, fun _ => by omega, fun _ => by omega, fun _ => by omega, fun _ => by omega, fun _ => by omega, fun _ _ _ => by omega, fun _ _ _ => by omega, fun _ _ _ => by omega, fun _ _ _ => by omega, fun _ _ _ => by omega, fun _ _ _ => by omega, fun _ _ _ => by omega, fun _ _ _ => by omega, fun _ _ _ => by omega, fun _ _ _ => ⟨g, hg, eg⟩⟩
        · rw [hs c (by omega) e0]
          obtain ⟨k0, k1, k2, k3, k4, k5, k6, k7, k8, k9, k10, k11, k12, k13, k14, k15, k16, k17, k18⟩ := hw0 c hc'
          exact ⟨k0, k1, fun z => absurd z e0, k3, k4, k5, k6, k7, k8, k9, k10, k11, k12, k13, k14, k15, k16, k17, fun j hj hcj => k18 j (by omega) hcj⟩
  · refine ⟨ovS ov k 0, Q, ?_, q2, fun x hx => ?_, fun x hx => ?_, fun i j hij hj => ?_⟩
    · rw [upd_ne (by omega), upd_ne (by omega)]; exact q1
    · by_cases ex : x = k
      · subst ex; rw [ovS_at, upd_ne (by omega), upd_at]; exact ⟨rfl, by omega⟩
      · rw [ovS_ne ex, upd_ne (by omega), upd_ne (by omega)]; exact q3 x hx
    · by_cases ex : x = k
      · subst ex
        rw [ovS_at]
        refine ⟨fun z => absurd rfl z, ?_⟩
        rintro ⟨j, hj, z⟩
        rw [hop1 j hj] at z
        by_cases e : j < p
        · rw [if_pos e] at z
          have := hI j p (by omega) (by omega) (z.trans hop.symm)
          omega
        · rw [if_neg e] at z
          have := hI (j + 1) p (by omega) (by omega) (z.trans hop.symm)
          omega
      · rw [ovS_ne ex, q4 x hx]
        constructor
        · rintro ⟨j, hj, z⟩
          have hjp : j ≠ p := fun e => by subst e; exact ex (z.symm.trans hop)
          by_cases e : j < p
          · exact ⟨j, by omega, by rw [hop1 j (by omega), if_pos e]; exact z⟩
          · exact ⟨j - 1, by omega, by rw [hop1 (j - 1) (by omega), if_neg (by omega), show j - 1 + 1 = j by omega]; exact z⟩
        · rintro ⟨j, hj, z⟩
          rw [hop1 j hj] at z
          exact ⟨_, by split <;> omega, z⟩
    · rw [hop1 i (by omega), hop1 j hj]
      have f : ∀ y, y ≤ n1 → y ≠ p → ovS ov k 0 (op d y) = ov (op d y) := fun y hy hyp => ovS_ne (fun z => hyp (hI y p (by omega) (by omega) (z.trans hop.symm)))
      rw [f _ (by split <;> omega) (by split <;> omega), f _ (by split <;> omega) (by split <;> omega)]
      exact q5 _ _ (by split <;> split <;> omega) (by split <;> omega)
