/-! THE TWO ROWS: cell by cell -/
/-- what a cell of the reference's row may hold -/
def okc (nA nH nO c : Nat) (x : Int32) : Prop := (c = 9 → x = nI nA) ∧ (c = 50 → x = nI nH) ∧ (c = 147 → x = nI nO) ∧ (c = 0 ∨ c = 1 → iR x (-2000) 2000) ∧ (c = 2 ∨ c = 3 → iR x 20 400) ∧ (c = 4 → iR x 0 30) ∧ (c = 5 → iR x 0 20) ∧ (c = 6 → iR x 1 6) ∧ (c = 7 ∨ c = 8 → iR x 0 1) ∧ (∀ a, a < nA → (c = 10 + a ∨ c = 20 + a) → iR x (-1000) 1000) ∧ (∀ a, a < nA → (c = 30 + a ∨ c = 40 + a) → iR x 1 200) ∧ (∀ h, h < nH → c = 51 + h → ∃ a, a < nA ∧ x = nI a) ∧ (∀ h, h < nH → (c = 63 + h ∨ c = 75 + h) → iR x 1 200) ∧ (∀ h, h < nH → c = 87 + h → sd x) ∧ (∀ h, h < nH → (c = 99 + h ∨ c = 111 + h) → iR x 0 2) ∧ (∀ h, h < nH → c = 123 + h → iR x 0 1) ∧ (∀ h, h < nH → c = 135 + h → iR x 0 9) ∧ (∀ h, h < nH → c = 160 + h → x = -1 ∨ sd x) ∧ (∀ j, j < nO → c = 148 + j → ∃ h, h < nH ∧ x = nI h)
def wX (d : aF) (nA nH nO : Nat) : Prop := nA ≤ 10 ∧ nH ≤ 12 ∧ nO ≤ 12 ∧ ∀ c, c < 172 → okc nA nH nO c (d c)
/-- cells of the two rows that hold the same -/
def px (i j : Nat) : Prop := (i < 4 ∧ j = i) ∨ (i = 4 ∧ j = 9) ∨ (i = 5 ∧ j = 50) ∨ (∃ k, k < 5 ∧ i = 7 + k ∧ j = 4 + k) ∨ (∃ a k, a < 10 ∧ k < 4 ∧ i = 12 + 4 * a + k ∧ j = 10 + 10 * k + a) ∨ (∃ h k, h < 12 ∧ k < 8 ∧ i = 52 + 10 * h + k ∧ j = 51 + 12 * k + h) ∨ (∃ h, h < 12 ∧ i = 52 + 10 * h + 9 ∧ j = 160 + h)
theorem px_inj {i j i' j' : Nat} (h : px i j) (h' : px i' j') : i = i' ↔ j = j' := by
  rcases h with ⟨h1, h2⟩ | ⟨h1, h2⟩ | ⟨h1, h2⟩ | ⟨k, hk, h1, h2⟩ | ⟨a, k, ha, hk, h1, h2⟩ | ⟨g, k, hg, hk, h1, h2⟩ | ⟨g, hg, h1, h2⟩ <;>
  rcases h' with ⟨f1, f2⟩ | ⟨f1, f2⟩ | ⟨f1, f2⟩ | ⟨k', hk', f1, f2⟩ | ⟨a', k', ha', hk', f1, f2⟩ | ⟨g', k', hg', hk', f1, f2⟩ | ⟨g', hg', f1, f2⟩ <;> omega
theorem px_lt {i j : Nat} (h : px i j) : i < 172 ∧ j < 172 ∧ i ≠ 6 ∧ (∀ g, g < 12 → i ≠ 52 + 10 * g + 8) ∧ (∀ k, k < 12 → j ≠ 148 + k) := by
  rcases h with ⟨h1, h2⟩ | ⟨h1, h2⟩ | ⟨h1, h2⟩ | ⟨k, hk, h1, h2⟩ | ⟨a, k, ha, hk, h1, h2⟩ | ⟨g, k, hg, hk, h1, h2⟩ | ⟨g, hg, h1, h2⟩ <;> exact ⟨by omega, by omega, by omega, fun _ _ => by omega, fun _ _ => by omega⟩
def pX (C d : aF) : Prop := ∀ i j, px i j → C i = d j
/-- the two rows stand for one state -/
def rX (C d : aF) (nA nH nO B : Nat) : Prop := wX d nA nH nO ∧ pX C d ∧ rO C d nH nO B
theorem pX_rK {C d : aF} (h : pX C d) : rK C d := ⟨h 0 0 (Or.inl ⟨by omega, rfl⟩), h 1 1 (Or.inl ⟨by omega, rfl⟩), h 4 9 (Or.inr (Or.inl ⟨rfl, rfl⟩)), h 5 50 (Or.inr (Or.inr (Or.inl ⟨rfl, rfl⟩))), fun k hk => h _ _ (Or.inr (Or.inr (Or.inr (Or.inl ⟨k, hk, rfl, rfl⟩)))), fun a k ha hk => h _ _ (Or.inr (Or.inr (Or.inr (Or.inr (Or.inl ⟨a, k, ha, hk, rfl, rfl⟩))))), fun g k hg hk => h _ _ (Or.inr (Or.inr (Or.inr (Or.inr (Or.inr (Or.inl ⟨g, k, hg, hk, rfl, rfl⟩)))))), fun g hg => h _ _ (Or.inr (Or.inr (Or.inr (Or.inr (Or.inr (Or.inr ⟨g, hg, rfl, rfl⟩))))))⟩
theorem wX_wD {d : aF} {nA nH nO : Nat} (h : wX d nA nH nO) : wD d nA nH nO ∧ wR d nA nH := by
  obtain ⟨l1, l2, l3, h⟩ := h
  have k : ∀ c, c < 172 → _ := h
  unfold okc at h
  constructor
  · refine ⟨l1, l2, l3, (h 9 (by omega)).1 rfl, (h 50 (by omega)).2.1 rfl, (h 147 (by omega)).2.2.1 rfl, fun g hg => ?_, fun g hg => ?_, fun g hg => ?_, fun j hj => ?_⟩
    · exact (h (51 + 12 * 0 + g) (by omega)).2.2.2.2.2.2.2.2.2.2.2.1 g hg (by omega)
    · exact (h (51 + 12 * 3 + g) (by omega)).2.2.2.2.2.2.2.2.2.2.2.2.2.1 g hg (by omega)
    · exact (h (160 + g) (by omega)).2.2.2.2.2.2.2.2.2.2.2.2.2.2.2.2.2.1 g hg (by omega)
    · exact (h (148 + j) (by omega)).2.2.2.2.2.2.2.2.2.2.2.2.2.2.2.2.2.2 j hj (by omega)
  · refine ⟨fun a ha => ⟨?_, ?_, ?_, ?_⟩, fun g hg => ⟨?_, ?_, ?_, ?_, ?_, ?_⟩, (h 4 (by omega)).2.2.2.2.2.1 rfl, (h 5 (by omega)).2.2.2.2.2.2.1 rfl, (h 6 (by omega)).2.2.2.2.2.2.2.1 rfl, (h 7 (by omega)).2.2.2.2.2.2.2.2.1 (Or.inl rfl), (h 8 (by omega)).2.2.2.2.2.2.2.2.1 (Or.inr rfl), (h 0 (by omega)).2.2.2.1 (Or.inl rfl), (h 1 (by omega)).2.2.2.1 (Or.inr rfl), (h 2 (by omega)).2.2.2.2.1 (Or.inl rfl), (h 3 (by omega)).2.2.2.2.1 (Or.inr rfl)⟩
    · exact (h (10 + 10 * 0 + a) (by omega)).2.2.2.2.2.2.2.2.2.1 a ha (by omega)
    · exact (h (10 + 10 * 1 + a) (by omega)).2.2.2.2.2.2.2.2.2.1 a ha (by omega)
    · exact (h (10 + 10 * 2 + a) (by omega)).2.2.2.2.2.2.2.2.2.2.1 a ha (by omega)
    · exact (h (10 + 10 * 3 + a) (by omega)).2.2.2.2.2.2.2.2.2.2.1 a ha (by omega)
    · exact (h (51 + 12 * 1 + g) (by omega)).2.2.2.2.2.2.2.2.2.2.2.2.1 g hg (by omega)
    · exact (h (51 + 12 * 2 + g) (by omega)).2.2.2.2.2.2.2.2.2.2.2.2.1 g hg (by omega)
    · exact (h (51 + 12 * 4 + g) (by omega)).2.2.2.2.2.2.2.2.2.2.2.2.2.2.1 g hg (by omega)
    · exact (h (51 + 12 * 5 + g) (by omega)).2.2.2.2.2.2.2.2.2.2.2.2.2.2.1 g hg (by omega)
    · exact (h (51 + 12 * 6 + g) (by omega)).2.2.2.2.2.2.2.2.2.2.2.2.2.2.2.1 g hg (by omega)
    · exact (h (51 + 12 * 7 + g) (by omega)).2.2.2.2.2.2.2.2.2.2.2.2.2.2.2.2.1 g hg (by omega)
theorem rX_rC {C d : aF} {nA nH nO B : Nat} (h : rX C d nA nH nO B) : rC C d nA nH nO B :=
  ⟨(wX_wD h.1).1, (wX_wD h.1).2, pX_rK h.2.1, h.2.1 2 2 (Or.inl ⟨by omega, rfl⟩), h.2.1 3 3 (Or.inl ⟨by omega, rfl⟩), h.2.2⟩
theorem wX_upd {d : aF} {nA nH nO i : Nat} {v : Int32} (h : wX d nA nH nO) (hv : okc nA nH nO i v) : wX (upd d i v) nA nH nO := by
  obtain ⟨l1, l2, l3, h⟩ := h
  refine ⟨l1, l2, l3, fun c hc => ?_⟩
  by_cases e : c = i
  · subst e; rw [upd_at]; exact hv
  · rw [upd_ne e]; exact h c hc
theorem pX_upd {C d : aF} {i j : Nat} {v : Int32} (h : pX C d) (hp : px i j) : pX (upd C i v) (upd d j v) := by
  intro i' j' hp'
  by_cases e : i' = i
  · rw [show j' = j from (px_inj hp' hp).mp e, e, upd_at, upd_at]
  · rw [upd_ne e, upd_ne (fun z => e ((px_inj hp' hp).mpr z))]
    exact h i' j' hp'
theorem pX_C {C d : aF} {i : Nat} {v : Int32} (h : pX C d) (hp : ∀ j, ¬ px i j) : pX (upd C i v) d := by
  intro i' j' hp'
  rw [upd_ne (fun e => by subst e; exact hp j' hp')]
  exact h i' j' hp'
theorem pX_d {C d : aF} {j : Nat} {v : Int32} (h : pX C d) (hp : ∀ i, ¬ px i j) : pX C (upd d j v) := by
  intro i' j' hp'
  rw [upd_ne (fun e => by subst e; exact hp i' hp')]
  exact h i' j' hp'
theorem rO_congr {C C' d d' : aF} {nH nO B : Nat} (hO : nO ≤ 12) (h : rO C d nH nO B) (h6 : C' 6 = C 6) (h8 : ∀ g, g < 12 → C' (52 + 10 * g + 8) = C (52 + 10 * g + 8)) (hd : ∀ j, j < nO → d' (148 + j) = d (148 + j)) : rO C' d' nH nO B := by
  obtain ⟨ov, Q, q1, q2, q3, q4, q5⟩ := h
  have e : ∀ j, j < nO → op d' j = op d j := fun j hj => by unfold op; rw [hd j hj]
  refine ⟨ov, Q, h6.trans q1, q2, fun g hg => ⟨(h8 g hg).trans (q3 g hg).1, (q3 g hg).2⟩, fun g hg => (q4 g hg).trans ⟨?_, ?_⟩, fun i j hij hj => ?_⟩
  · rintro ⟨j, hj, z⟩; exact ⟨j, hj, (e j hj).trans z⟩
  · rintro ⟨j, hj, z⟩; exact ⟨j, hj, (e j hj).symm.trans z⟩
  · rw [e i (by omega), e j hj]; exact q5 i j hij hj
/-- a pair of cells is set to the same number -/
theorem rX_pair {C d : aF} {nA nH nO B i j : Nat} {v : Int32} (h : rX C d nA nH nO B) (hp : px i j) (hv : okc nA nH nO j v) : rX (upd C i v) (upd d j v) nA nH nO B := by
  obtain ⟨p1, p2, p3, p4, p5⟩ := px_lt hp
  refine ⟨wX_upd h.1 hv, pX_upd h.2.1 hp, rO_congr h.1.2.2.1 h.2.2 (upd_ne (fun e => p3 e.symm)) (fun g hg => upd_ne (fun e => p4 g hg e.symm)) (fun k hk => upd_ne (fun e => p5 k (by have := h.1.2.2.1; omega) e.symm))⟩
theorem rX_congr {C C' d d' : aF} {nA nH nO B : Nat} (h : rX C d nA nH nO B) (hC : ∀ c, c < 172 → C' c = C c) (hd : ∀ c, c < 172 → d' c = d c) : rX C' d' nA nH nO B := by
  obtain ⟨⟨l1, l2, l3, w⟩, p, o⟩ := h
  refine ⟨⟨l1, l2, l3, fun c hc => by rw [hd c hc]; exact w c hc⟩, fun i j hp => by rw [hC i (px_lt hp).1, hd j (px_lt hp).2.1]; exact p i j hp, rO_congr l3 o (hC 6 (by omega)) (fun g hg => hC _ (by omega)) (fun j hj => hd _ (by omega))⟩
theorem rX_mono {C d : aF} {nA nH nO B B' : Nat} (h : rX C d nA nH nO B) (hB : B ≤ B') : rX C d nA nH nO B' := by
  obtain ⟨w, p, ov, Q, q1, q2, q3⟩ := h
  exact ⟨w, p, ov, Q, q1, by omega, q3⟩
theorem px_v (k : Nat) (hk : k < 4) : px k k := Or.inl ⟨hk, rfl⟩
theorem px_S (k : Nat) (hk : k < 5) : px (7 + k) (4 + k) := Or.inr (Or.inr (Or.inr (Or.inl ⟨k, hk, rfl, rfl⟩)))
theorem px_A (a k : Nat) (ha : a < 10) (hk : k < 4) : px (12 + 4 * a + k) (10 + 10 * k + a) := Or.inr (Or.inr (Or.inr (Or.inr (Or.inl ⟨a, k, ha, hk, rfl, rfl⟩))))
theorem px_H (h k : Nat) (hh : h < 12) (hk : k < 8) : px (52 + 10 * h + k) (51 + 12 * k + h) := Or.inr (Or.inr (Or.inr (Or.inr (Or.inr (Or.inl ⟨h, k, hh, hk, rfl, rfl⟩)))))
theorem px_M (h : Nat) (hh : h < 12) : px (52 + 10 * h + 9) (160 + h) := Or.inr (Or.inr (Or.inr (Or.inr (Or.inr (Or.inr ⟨h, hh, rfl, rfl⟩)))))
theorem px_nA : px 4 9 := Or.inr (Or.inl ⟨rfl, rfl⟩)
theorem px_nH : px 5 50 := Or.inr (Or.inr (Or.inl ⟨rfl, rfl⟩))
theorem okc_v01 {nA nH nO : Nat} {x : Int32} {k : Nat} (hA : nA ≤ 10) (hH : nH ≤ 12) (hO : nO ≤ 12) (hk : k < 2) (h : iR x (-2000) 2000) : okc nA nH nO (k) x := ⟨fun _ => by omega, fun _ => by omega, fun _ => by omega, fun _ => h, fun _ => by omega, fun _ => by omega, fun _ => by omega, fun _ => by omega, fun _ => by omega, fun _ _ _ => by omega, fun _ _ _ => by omega, fun _ _ _ => by omega, fun _ _ _ => by omega, fun _ _ _ => by omega, fun _ _ _ => by omega, fun _ _ _ => by omega, fun _ _ _ => by omega, fun _ _ _ => by omega, fun _ _ _ => by omega⟩
theorem okc_v23 {nA nH nO : Nat} {x : Int32} {k : Nat} (hA : nA ≤ 10) (hH : nH ≤ 12) (hO : nO ≤ 12) (hk : k < 2) (h : iR x 20 400) : okc nA nH nO (2 + k) x := ⟨fun _ => by omega, fun _ => by omega, fun _ => by omega, fun _ => by omega, fun _ => h, fun _ => by omega, fun _ => by omega, fun _ => by omega, fun _ => by omega, fun _ _ _ => by omega, fun _ _ _ => by omega, fun _ _ _ => by omega, fun _ _ _ => by omega, fun _ _ _ => by omega, fun _ _ _ => by omega, fun _ _ _ => by omega, fun _ _ _ => by omega, fun _ _ _ => by omega, fun _ _ _ => by omega⟩
theorem okc_S {nA nH nO : Nat} {x : Int32} {k : Nat} (hA : nA ≤ 10) (hH : nH ≤ 12) (hO : nO ≤ 12) (hk : k < 5) (h0 : k = 0 → iR x 0 30) (h1 : k = 1 → iR x 0 20) (h2 : k = 2 → iR x 1 6) (h3 : k = 3 ∨ k = 4 → iR x 0 1) : okc nA nH nO (4 + k) x := ⟨fun _ => by omega, fun _ => by omega, fun _ => by omega, fun _ => by omega, fun _ => by omega, fun _ => h0 (by omega), fun _ => h1 (by omega), fun _ => h2 (by omega), fun _ => h3 (by omega), fun _ _ _ => by omega, fun _ _ _ => by omega, fun _ _ _ => by omega, fun _ _ _ => by omega, fun _ _ _ => by omega, fun _ _ _ => by omega, fun _ _ _ => by omega, fun _ _ _ => by omega, fun _ _ _ => by omega, fun _ _ _ => by omega⟩
theorem okc_Axy {nA nH nO : Nat} {x : Int32} {a k : Nat} (hA : nA ≤ 10) (hH : nH ≤ 12) (hO : nO ≤ 12) (ha : a < 10) (hk : k < 2) (h : iR x (-1000) 1000) : okc nA nH nO (10 + 10 * k + a) x := ⟨fun _ => by omega, fun _ => by omega, fun _ => by omega, fun _ => by omega, fun _ => by omega, fun _ => by omega, fun _ => by omega, fun _ => by omega, fun _ => by omega, fun _ _ _ => h, fun _ _ _ => by omega, fun _ _ _ => by omega, fun _ _ _ => by omega, fun _ _ _ => by omega, fun _ _ _ => by omega, fun _ _ _ => by omega, fun _ _ _ => by omega, fun _ _ _ => by omega, fun _ _ _ => by omega⟩
theorem okc_Awh {nA nH nO : Nat} {x : Int32} {a k : Nat} (hA : nA ≤ 10) (hH : nH ≤ 12) (hO : nO ≤ 12) (ha : a < 10) (hk : k < 2) (h : iR x 1 200) : okc nA nH nO (10 + 10 * (2 + k) + a) x := ⟨fun _ => by omega, fun _ => by omega, fun _ => by omega, fun _ => by omega, fun _ => by omega, fun _ => by omega, fun _ => by omega, fun _ => by omega, fun _ => by omega, fun _ _ _ => by omega, fun _ _ _ => h, fun _ _ _ => by omega, fun _ _ _ => by omega, fun _ _ _ => by omega, fun _ _ _ => by omega, fun _ _ _ => by omega, fun _ _ _ => by omega, fun _ _ _ => by omega, fun _ _ _ => by omega⟩
theorem okc_H {nA nH nO : Nat} {x : Int32} {g k : Nat} (hA : nA ≤ 10) (hH : nH ≤ 12) (hO : nO ≤ 12) (hg : g < 12) (hk : k < 8) (h0 : k = 0 → ∃ a, a < nA ∧ x = nI a) (h1 : k = 1 ∨ k = 2 → iR x 1 200) (h3 : k = 3 → sd x) (h4 : k = 4 ∨ k = 5 → iR x 0 2) (h6 : k = 6 → iR x 0 1) (h7 : k = 7 → iR x 0 9) : okc nA nH nO (51 + 12 * k + g) x := ⟨fun _ => by omega, fun _ => by omega, fun _ => by omega, fun _ => by omega, fun _ => by omega, fun _ => by omega, fun _ => by omega, fun _ => by omega, fun _ => by omega, fun _ _ _ => by omega, fun _ _ _ => by omega, fun _ _ _ => h0 (by omega), fun _ _ _ => h1 (by omega), fun _ _ _ => h3 (by omega), fun _ _ _ => h4 (by omega), fun _ _ _ => h6 (by omega), fun _ _ _ => h7 (by omega), fun _ _ _ => by omega, fun _ _ _ => by omega⟩
theorem okc_M {nA nH nO : Nat} {x : Int32} {g : Nat} (hA : nA ≤ 10) (hH : nH ≤ 12) (hO : nO ≤ 12) (hg : g < 12) (h : x = -1 ∨ sd x) : okc nA nH nO (160 + g) x := ⟨fun _ => by omega, fun _ => by omega, fun _ => by omega, fun _ => by omega, fun _ => by omega, fun _ => by omega, fun _ => by omega, fun _ => by omega, fun _ => by omega, fun _ _ _ => by omega, fun _ _ _ => by omega, fun _ _ _ => by omega, fun _ _ _ => by omega, fun _ _ _ => by omega, fun _ _ _ => by omega, fun _ _ _ => by omega, fun _ _ _ => by omega, fun _ _ _ => h, fun _ _ _ => by omega⟩
theorem okc_nA {nA nH nO c : Nat} {x : Int32} (hA : nA < 10) (hH : nH ≤ 12) (hO : nO ≤ 12) (h : okc nA nH nO c x) (h9 : c ≠ 9) (hxy : c = 10 + nA ∨ c = 20 + nA → iR x (-1000) 1000) (hwh : c = 30 + nA ∨ c = 40 + nA → iR x 1 200) : okc (nA + 1) nH nO c x := by
  obtain ⟨_, k1, k2, k3, k4, k5, k6, k7, k8, k9, k10, k11, k12⟩ := h
  refine ⟨fun z => absurd z h9, k1, k2, k3, k4, k5, k6, k7, k8, fun a ha hc => ?_, fun a ha hc => ?_, fun g hg hc => ?_, k12⟩
  · by_cases e : a = nA
    · subst e; exact hxy hc
    · exact k9 a (by omega) hc
  · by_cases e : a = nA
    · subst e; exact hwh hc
    · exact k10 a (by omega) hc
  · obtain ⟨a, ha, e⟩ := k11 g hg hc
    exact ⟨a, by omega, e⟩
theorem rX_anchor {C d : aF} {nA nH nO B : Nat} {x y w t : Int32} (h : rX C d nA nH nO B) (hA : nA < 10) (hx : iR x (-1000) 1000) (hy : iR y (-1000) 1000) (hw : iR w 1 200) (ht : iR t 1 200) : rX (upd (upd (upd (upd (upd C 4 (nI (nA + 1))) (12 + 4 * nA + 0) x) (12 + 4 * nA + 1) y) (12 + 4 * nA + 2) w) (12 + 4 * nA + 3) t) (upd (upd (upd (upd (upd d (10 + nA) x) (20 + nA) y) (30 + nA) w) (40 + nA) t) 9 (nI (nA + 1))) (nA + 1) nH nO B := by
  obtain ⟨⟨l1, l2, l3, hw0⟩, hp, ho⟩ := h
  refine ⟨⟨by omega, l2, l3, fun c hc => ?_⟩, ?_, ?_⟩
  · by_cases e : c = 9
    · subst e
      rw [upd_at]
      exact ⟨fun _ => rfl, fun _ => by omega, fun _ => by omega, fun _ => by omega, fun _ => by omega, fun _ => by omega, fun _ => by omega, fun _ => by omega, fun _ => by omega, fun _ _ _ => by omega, fun _ _ _ => by omega, fun _ _ _ => by omega, fun _ _ _ => by omega, fun _ _ _ => by omega, fun _ _ _ => by omega, fun _ _ _ => by omega, fun _ _ _ => by omega, fun _ _ _ => by omega, fun _ _ _ => by omega⟩
    · rw [upd_ne e]
      have hk := okc_nA (x := upd (upd (upd (upd d (10 + nA) x) (20 + nA) y) (30 + nA) w) (40 + nA) t c) hA l2 l3 (c := c) ?_ e ?_ ?_
      · exact hk
      · have k1 := wX_upd (i := 10 + nA) (v := x) ⟨l1, l2, l3, hw0⟩ (by have := okc_Axy (a := nA) (k := 0) l1 l2 l3 hA (by omega) hx; rwa [show 10 + 10 * 0 + nA = 10 + nA by omega] at this)
        have k2 := wX_upd (i := 20 + nA) (v := y) k1 (by have := okc_Axy (a := nA) (k := 1) l1 l2 l3 hA (by omega) hy; rwa [show 10 + 10 * 1 + nA = 20 + nA by omega] at this)
        have k3 := wX_upd (i := 30 + nA) (v := w) k2 (by have := okc_Awh (a := nA) (k := 0) l1 l2 l3 hA (by omega) hw; rwa [show 10 + 10 * (2 + 0) + nA = 30 + nA by omega] at this)
        have k4 := wX_upd (i := 40 + nA) (v := t) k3 (by have := okc_Awh (a := nA) (k := 1) l1 l2 l3 hA (by omega) ht; rwa [show 10 + 10 * (2 + 1) + nA = 40 + nA by omega] at this)
        exact k4.2.2.2 c hc
      · rintro (e1 | e1)
        · rw [e1, upd_ne (by omega), upd_ne (by omega), upd_ne (by omega), upd_at]; exact hx
        · rw [e1, upd_ne (by omega), upd_ne (by omega), upd_at]; exact hy
      · rintro (e1 | e1)
        · rw [e1, upd_ne (by omega), upd_at]; exact hw
        · rw [e1, upd_at]; exact ht
  · have e : upd (upd (upd (upd (upd d (10 + nA) x) (20 + nA) y) (30 + nA) w) (40 + nA) t) 9 (nI (nA + 1)) = upd (upd (upd (upd (upd d 9 (nI (nA + 1))) (10 + 10 * 0 + nA) x) (10 + 10 * 1 + nA) y) (10 + 10 * 2 + nA) w) (10 + 10 * 3 + nA) t := by
      funext c
      unfold upd
      by_cases e0 : c = 9
      · subst e0
        rw [if_pos rfl, if_neg (by omega), if_neg (by omega), if_neg (by omega), if_neg (by omega), if_pos rfl]
      · rw [if_neg e0, if_neg e0, show 10 + 10 * 0 + nA = 10 + nA by omega, show 10 + 10 * 1 + nA = 20 + nA by omega, show 10 + 10 * 2 + nA = 30 + nA by omega, show 10 + 10 * 3 + nA = 40 + nA by omega]
    rw [e]
    exact pX_upd (pX_upd (pX_upd (pX_upd (pX_upd hp px_nA) (px_A nA 0 hA (by omega))) (px_A nA 1 hA (by omega))) (px_A nA 2 hA (by omega))) (px_A nA 3 hA (by omega))
  · refine rO_congr l3 ho ?_ (fun g hg => ?_) (fun j hj => ?_)
    · rw [upd_ne (by omega), upd_ne (by omega), upd_ne (by omega), upd_ne (by omega), upd_ne (by omega)]
    · rw [upd_ne (by omega), upd_ne (by omega), upd_ne (by omega), upd_ne (by omega), upd_ne (by omega)]
    · rw [upd_ne (by omega), upd_ne (by omega), upd_ne (by omega), upd_ne (by omega), upd_ne (by omega)]
