/-! THE TWO ROWS: the order of open hints, the sides that are tried, all together -/
/-- one hint goes before another: by its rank, then by when it was opened -/
def gI (d : aF) (ov : Nat → Nat) (o v : Nat) : Prop := (pr d v).toInt < (pr d o).toInt ∨ ((pr d o).toInt = (pr d v).toInt ∧ ov o < ov v)
theorem insR_pw {d : aF} {ov : Nat → Nat} {h : Nat} : ∀ {R : List Nat}, R.Pairwise (fun x y => gI d ov y x) → (∀ x ∈ R, ov x < ov h) → (insR d h R).Pairwise (fun x y => gI d ov y x)
  | [], _, _ => List.pairwise_singleton _ _
  | x :: R, hR, ho => by
    obtain ⟨h1, h2⟩ := List.pairwise_cons.mp hR
    unfold insR
    by_cases q : pr d h ≤ pr d x
    · rw [if_pos q]
      have q' := Int32.le_iff_toInt_le.mp q
      refine List.pairwise_cons.mpr ⟨fun y hy => ?_, hR⟩
      have hoy := ho y hy
      rcases List.mem_cons.mp hy with e | hy2
      · subst e
        unfold gI
        omega
      · have g := h1 y hy2
        unfold gI at g ⊢
        omega
    · rw [if_neg q]
      have q' : ¬ (pr d h).toInt ≤ (pr d x).toInt := fun z => q (Int32.le_iff_toInt_le.mpr z)
      refine List.pairwise_cons.mpr ⟨fun y hy => ?_, insR_pw h2 (fun z hz => ho z (List.mem_cons_of_mem _ hz))⟩
      rcases (insR_mem d h R y).mp hy with e | hy2
      · subst e
        unfold gI
        omega
      · exact h1 y hy2
theorem ordR_pw {d : aF} {ov : Nat → Nat} {nO : Nat} (hov : ∀ i j, i < j → j < nO → ov (op d i) < ov (op d j)) : ∀ k, k ≤ nO → (ordR d k).Pairwise (fun x y => gI d ov y x)
  | 0, _ => List.Pairwise.nil
  | k + 1, hk => by
    refine insR_pw (ordR_pw hov k (by omega)) (fun x hx => ?_)
    obtain ⟨j, hj, e⟩ := (ordR_mem d k x).mp hx
    rw [e]
    exact hov j k hj (by omega)
theorem ordL_pw {d : aF} {ov : Nat → Nat} {nO : Nat} (hov : ∀ i j, i < j → j < nO → ov (op d i) < ov (op d j)) {i j u v : Nat} (hij : i < j) (hi : (ordL d nO)[i]? = some u) (hj : (ordL d nO)[j]? = some v) : gI d ov u v := by
  have hp : (ordL d nO).Pairwise (fun x y => gI d ov x y) := by
    unfold ordL
    rw [List.pairwise_reverse]
    exact ordR_pw hov nO (Nat.le_refl _)
  obtain ⟨i1, i2⟩ := List.getElem?_eq_some_iff.mp hi
  obtain ⟨j1, j2⟩ := List.getElem?_eq_some_iff.mp hj
  have := List.pairwise_iff_getElem.mp hp i j i1 j1 hij
  rw [i2, j2] at this
  exact this
theorem gI_asy {d : aF} {ov : Nat → Nat} {o v : Nat} (h : gI d ov o v) : ¬ gI d ov v o := by unfold gI at *; omega
theorem gI_irr {d : aF} {ov : Nat → Nat} {o : Nat} : ¬ gI d ov o o := by unfold gI; omega
theorem cN_ins {P P' : Nat → Prop} {x : Nat} (h : ∀ o, P' o ↔ (o = x ∨ P o)) (hx : ¬ P x) : ∀ n, x < n → cN P' n = cN P n + 1
  | 0, hn => by omega
  | n + 1, hn => by
    by_cases e : x = n
    · subst e
      have hc : cN P' x = cN P x := cN_congr (fun k hk => by rw [h k]; exact ⟨fun z => z.resolve_left (by omega), Or.inr⟩)
      show iif (P' x) _ _ = iif (P x) _ _ + 1
      rw [iif_t ((h x).mpr (Or.inl rfl)), iif_f hx, hc]
    · have ih := cN_ins h hx n (by omega)
      show iif (P' n) _ _ = iif (P n) _ _ + 1
      by_cases q : P n
      · rw [iif_t q, iif_t ((h n).mpr (Or.inr q)), ih]
      · rw [iif_f q, iif_f (fun z => ((h n).mp z).elim (fun e2 => e e2.symm) q), ih]
theorem cN_F {P : Nat → Prop} (h : ∀ o, ¬ P o) : ∀ n, cN P n = 0
  | 0 => rfl
  | n + 1 => by show iif (P n) _ _ = 0; rw [iif_f (h n), cN_F h n]
theorem cN_mem {n : Nat} : ∀ (M : List Nat), M.Nodup → (∀ x ∈ M, x < n) → cN (fun o => o ∈ M) n = M.length
  | [], _, _ => cN_F (fun o h => by cases h) n
  | x :: M, hn, hl => by
    obtain ⟨h1, h2⟩ := List.nodup_cons.mp hn
    rw [cN_ins (P := fun o => o ∈ M) (P' := fun o => o ∈ x :: M) (x := x) (fun o => List.mem_cons) h1 n (hl x List.mem_cons_self), cN_mem M h2 (fun y hy => hl y (List.mem_cons_of_mem _ hy))]
    rfl
/-- the openings of the class's row stand for the reference's list -/
def rO (C d : aF) (nH nO B : Nat) : Prop := ∃ (ov : Nat → Nat) (Q : Nat), C 6 = nI Q ∧ Q ≤ B ∧ (∀ h, h < 12 → C (52 + 10 * h + 8) = nI (ov h) ∧ ov h ≤ Q) ∧ (∀ h, h < nH → (¬ ov h = 0 ↔ ∃ j, j < nO ∧ op d j = h)) ∧ (∀ i j, i < j → j < nO → ov (op d i) < ov (op d j))
theorem op_of {d : aF} {nA nH nO : Nat} (hw : wD d nA nH nO) {j : Nat} (hj : j < nO) : op d j < nH ∧ d (148 + j) = nI (op d j) := by
  obtain ⟨w1, w2, w3, w4, w5, w6, w7, w8, w9, w10⟩ := hw
  obtain ⟨h, h1, h2⟩ := w10 j hj
  have e : op d j = h := by unfold op; rw [h2, nI_clamp (by omega)]
  rw [e]
  exact ⟨h1, h2⟩
theorem rO_wI {C d : aF} {nH nO B : Nat} (h : rO C d nH nO B) : wI d nO := by
  obtain ⟨ov, Q, q1, q2, q3, q4, q5⟩ := h
  intro i j hi hj e
  rcases Nat.lt_trichotomy i j with z | z | z
  · have := q5 i j z hj; rw [e] at this; omega
  · exact z
  · have := q5 j i z hi; rw [e] at this; omega
theorem open_iff {C d : aF} {nA nH nO B : Nat} (hw : wD d nA nH nO) (hB : B < 2 ^ 30) (h : rO C d nH nO B) {o : Nat} (ho : o < nH) : q_open C (nI o) ↔ o ∈ ordL d nO := by
  obtain ⟨ov, Q, q1, q2, q3, q4, q5⟩ := h
  have w2 := hw.2.1
  have e : gH C (nI o) 8 = nI (ov o) := (gH_k C (k := 8) (by omega) (by decide)).trans (q3 o (by omega)).1
  have l := (q3 o (by omega)).2
  unfold q_open
  rw [e, show (0 : Int32) = nI 0 from rfl, nI_eq (by omega) (by omega), q4 o ho]
  unfold ordL
  rw [List.mem_reverse, ordR_mem]
  constructor
  · rintro ⟨j, hj, e2⟩; exact ⟨j, hj, e2.symm⟩
  · rintro ⟨j, hj, e2⟩; exact ⟨j, hj, e2.symm⟩
theorem gb_iff {C d : aF} {nA nH nO : Nat} (hw : wD d nA nH nO) (K : rK C d) {ov : Nat → Nat} {Q : Nat} (hQ : Q < 2 ^ 30) (q3 : ∀ h, h < 12 → C (52 + 10 * h + 8) = nI (ov h) ∧ ov h ≤ Q) {o v : Nat} (ho : o < nH) (hv : v < nH) : q_gb C (nI o) (nI v) ↔ gI d ov o v := by
  have w2 := hw.2.1
  have lo : o < 12 := by omega
  have lv : v < 12 := by omega
  have e1 : gH C (nI o) 7 = pr d o := gH_d K lo 7 (by decide)
  have e2 : gH C (nI v) 7 = pr d v := gH_d K lv 7 (by decide)
  have e3 : gH C (nI o) 8 = nI (ov o) := (gH_k C (k := 8) lo (by decide)).trans (q3 o lo).1
  have e4 : gH C (nI v) 8 = nI (ov v) := (gH_k C (k := 8) lv (by decide)).trans (q3 v lv).1
  have l1 := (q3 o lo).2
  have l2 := (q3 v lv).2
  unfold q_gb gI
  rw [e1, e2, e3, e4, nI_leI (by omega) (by omega), Int32.le_iff_toInt_le, ← Int32.toInt_inj]
  omega
/-- the turn of an open hint is its place in the order -/
theorem tn_at {C d : aF} {nA nH nO B : Nat} (hw : wD d nA nH nO) (K : rK C d) (hB : B < 2 ^ 30) (hO : rO C d nH nO B) {i v : Nat} (hi : (ordL d nO)[i]? = some v) : tn C nH (nI v) = i := by
  have hop := fun {o : Nat} (ho : o < nH) => open_iff hw hB hO ho
  have hnd := ordL_nodup (rO_wI hO)
  obtain ⟨ov, Q, q1, q2, q3, q4, q5⟩ := id hO
  have hv : v < nH := ordL_mem hw (List.mem_of_getElem? hi)
  have hil : i < (ordL d nO).length := (List.getElem?_eq_some_iff.mp hi).1
  have hc : tn C nH (nI v) = cN (fun o => o ∈ (ordL d nO).take i) nH := by
    unfold tn
    refine cN_congr (fun o ho => ?_)
    rw [hop ho, gb_iff hw K (Q := Q) (by omega) q3 ho hv, List.mem_take_iff_getElem]
    constructor
    · rintro ⟨h1, h2⟩
      obtain ⟨j, hj⟩ := List.getElem?_of_mem h1
      obtain ⟨j1, j2⟩ := List.getElem?_eq_some_iff.mp hj
      rcases Nat.lt_trichotomy j i with z | z | z
      · exact ⟨j, by omega, j2⟩
      · subst z
        rw [hi] at hj
        cases hj
        exact absurd h2 gI_irr
      · exact absurd (ordL_pw q5 z hi hj) (gI_asy h2)
    · rintro ⟨j, hj, e⟩
      have hj' : (ordL d nO)[j]? = some o := List.getElem?_eq_some_iff.mpr ⟨by omega, e⟩
      exact ⟨List.mem_of_getElem? hj', ordL_pw q5 (by omega) hj' hi⟩
  rw [hc, cN_mem _ (hnd.sublist (List.take_sublist _ _)) (fun x hx => ordL_mem hw (List.mem_of_mem_take hx)), List.length_take_of_le (by omega)]
theorem orW_at {C d OR : aF} {nA nH nO B : Nat} (hw : wD d nA nH nO) (K : rK C d) (hB : B < 2 ^ 30) (hO : rO C d nH nO B) {i v : Nat} (hi : (ordL d nO)[i]? = some v) : ∀ k, k ≤ nH → v < k → orW C OR nH k i = nI v
  | 0, _, h => by omega
  | k + 1, hk, h => by
    have w3 := hw.2.2.1
    have hlen := ordL_len d nO
    have hil : i < (ordL d nO).length := (List.getElem?_eq_some_iff.mp hi).1
    show (iif (α := aF) (q_open C (nI k)) (rp 12 (orW C OR nH k) (nI (tn C nH (nI k))) (nI k)) (orW C OR nH k)) i = nI v
    by_cases q : q_open C (nI k)
    · rw [iif_t q]
      obtain ⟨j, hj⟩ := List.getElem?_of_mem ((open_iff hw hB hO (by omega)).mp q)
      have hjl : j < (ordL d nO).length := (List.getElem?_eq_some_iff.mp hj).1
      rw [tn_at hw K hB hO hj, rp_in _ _ (by omega) (by omega)]
      by_cases e : i = j
      · subst e
        rw [upd_at]
        rw [hi] at hj
        cases hj
        rfl
      · rw [upd_ne e]
        have hvk : v ≠ k := fun z => by
          subst z
          exact e (by
            have := List.getElem?_inj (i := i) (j := j) hil (ordL_nodup (rO_wI hO)) |>.mp (hi.trans hj.symm)
            exact this)
        exact orW_at hw K hB hO hi k (by omega) (by omega)
    · rw [iif_f q]
      by_cases e : v = k
      · subst e
        exact absurd ((open_iff hw hB hO (by omega)).mpr (List.mem_of_getElem? hi)) q
      · exact orW_at hw K hB hO hi k (by omega) (by omega)
theorem cN_open {C d : aF} {nA nH nO B : Nat} (hw : wD d nA nH nO) (hB : B < 2 ^ 30) (hO : rO C d nH nO B) : cN (fun o => q_open C (nI o)) nH = nO := by
  rw [cN_congr (Q := fun o => o ∈ ordL d nO) (fun o ho => open_iff hw hB hO ho), cN_mem _ (ordL_nodup (rO_wI hO)) (fun x hx => ordL_mem hw hx), ordL_len]
/-! the sides that are tried -/
def lq1 (rm re : Int32) : List Int32 := if re = 1 then if rm = -1 then [] else addL [] rm else []
def lq3 (L : List Int32) (own fl : Int32) : List Int32 := if fl < 1 then addL L own else addL (addL L own) (m4 (own + 2))
def lq4 (L : List Int32) (own fl : Int32) : List Int32 := if fl = 2 then addL (addL (lq3 L own fl) (m4 (own + 1))) (m4 (own + 4 - 1)) else lq3 L own fl
def lu3 (L : List Int32) (own fl : Int32) : List Int32 := if fl ≤ 0 then addL L own else addL (addL L own) (m4 (own + 2))
def lu4 (L : List Int32) (own fl : Int32) : List Int32 := if fl = 2 then addL (addL (lu3 L own fl) (m4 (own + 1))) (m4 (own + 3)) else lu3 L own fl
theorem tr1_l (T : tT) (rm re : Int32) : (tr1 T rm re).2 = lq1 rm re := by
  unfold tr1 lq1
  split
  · split <;> rfl
  · rfl
theorem tu1_l (T : tT) (rm re : Int32) : (tu1 T rm re).2 = lq1 rm re := by
  unfold tu1 lq1
  split
  · split <;> rfl
  · rfl
theorem tr3_l (p : tT × List Int32) (own fl : Int32) : (tr3 p own fl).2 = lq3 p.2 own fl := by
  unfold tr3 lq3
  split <;> rfl
theorem tu3_l (p : tT × List Int32) (own fl : Int32) : (tu3 p own fl).2 = lu3 p.2 own fl := by
  unfold tu3 lu3
  split <;> rfl
theorem trL_l (T : tT) (rm own fl re : Int32) : (trL T rm own fl re).2 = lq4 (lq1 rm re) own fl := by
  unfold trL tr4 lq4
  split
  · show addL (addL (tr3 _ own fl).2 _) _ = _
    rw [tr3_l, tr1_l]
  · rw [tr3_l, tr1_l]
theorem trU_l (T : tT) (rm own fl re : Int32) : (trU T rm own fl re).2 = lu4 (lq1 rm re) own fl := by
  unfold trU tu4 lu4
  split
  · show addL (addL (tu3 _ own fl).2 _) _ = _
    rw [tu3_l, tu1_l]
  · rw [tu3_l, tu1_l]
def lqB (rm own fl re : Int32) : Bool := decide (lq4 (lq1 rm re) own fl = lu4 (lq1 rm re) own fl) && (decide (m4 (own + 4 - 1) ∈ addL (lq3 (lq1 rm re) own fl) (m4 (own + 1))) || decide ((addL (lq3 (lq1 rm re) own fl) (m4 (own + 1))).length < 4))
theorem lqB_all : ∀ i : Nat, i < 5 → ∀ j : Nat, j < 4 → ∀ k : Nat, k < 3 → ∀ l : Nat, l < 2 → lqB (iZ ((i : Int) - 1)) (nI j) (nI k) (nI l) = true := by decide +kernel
theorem lq_all (i : Nat) (hi : i < 5) (j : Nat) (hj : j < 4) (k : Nat) (hk : k < 3) (l : Nat) (hl : l < 2) : lq4 (lq1 (iZ ((i : Int) - 1)) (nI l)) (nI j) (nI k) = lu4 (lq1 (iZ ((i : Int) - 1)) (nI l)) (nI j) (nI k) ∧ (m4 (nI j + 4 - 1) ∈ addL (lq3 (lq1 (iZ ((i : Int) - 1)) (nI l)) (nI j) (nI k)) (m4 (nI j + 1)) ∨ (addL (lq3 (lq1 (iZ ((i : Int) - 1)) (nI l)) (nI j) (nI k)) (m4 (nI j + 1))).length < 4) := by
  have q := lqB_all i hi j hj k hk l hl
  unfold lqB at q
  rw [Bool.and_eq_true, Bool.or_eq_true] at q
  exact ⟨of_decide_eq_true q.1, q.2.elim (fun z => Or.inl (of_decide_eq_true z)) (fun z => Or.inr (of_decide_eq_true z))⟩
theorem iR_nI {x : Int32} {m : Nat} (h : iR x 0 (m : Int)) : ∃ k, k ≤ m ∧ x = nI k := by
  obtain ⟨h1, h2⟩ := h
  have h0 : ¬ x < 0 := by rw [Int32.lt_iff_toInt_lt, Int32.toInt_zero]; omega
  obtain ⟨j, hj, rfl⟩ := nI_of h0
  rw [nI_toInt hj] at h2
  exact ⟨j, by omega, rfl⟩
theorem trL_ok {a : aF} {rm own fl re : Int32} (h1 : rm = -1 ∨ sd rm) (h2 : sd own) (h3 : iR fl 0 2) (h4 : iR re 0 1) : tL (trL (a, 0) rm own fl re).1 (trU ((fun _ => 0), 0) rm own fl re).2 := by
  obtain ⟨k, hk, rfl⟩ := iR_nI (m := 2) h3
  obtain ⟨l, hl, rfl⟩ := iR_nI (m := 1) h4
  obtain ⟨j, hj, rfl⟩ : ∃ j, j < 4 ∧ own = nI j := by
    rcases h2 with rfl | rfl | rfl | rfl
    · exact ⟨0, by omega, rfl⟩
    · exact ⟨1, by omega, rfl⟩
    · exact ⟨2, by omega, rfl⟩
    · exact ⟨3, by omega, rfl⟩
  obtain ⟨i, hi, rfl⟩ : ∃ i : Nat, i < 5 ∧ rm = iZ ((i : Int) - 1) := by
    rcases h1 with rfl | rfl | rfl | rfl | rfl
    · exact ⟨0, by omega, rfl⟩
    · exact ⟨1, by omega, rfl⟩
    · exact ⟨2, by omega, rfl⟩
    · exact ⟨3, by omega, rfl⟩
    · exact ⟨4, by omega, rfl⟩
  obtain ⟨e1, e2⟩ := lq_all i hi j hj k (by omega) l (by omega)
  rw [trU_l, ← e1, ← trL_l (a, 0)]
  obtain ⟨o1, o2⟩ := trL_ok0 a (rm := iZ ((i : Int) - 1)) (own := nI j) (fl := nI k) (re := nI l)
  unfold trL tr4
  split
  · refine tL_add o2 ?_
    show m4 (nI j + 4 - 1) ∈ addL (tr3 (tr1 (a, 0) (iZ ((i : Int) - 1)) (nI l)) (nI j) (nI k)).2 (m4 (nI j + 1)) ∨ (addL (tr3 (tr1 (a, 0) (iZ ((i : Int) - 1)) (nI l)) (nI j) (nI k)).2 (m4 (nI j + 1))).length < 4
    rw [tr3_l, tr1_l]
    exact e2
  · exact o1
theorem f_eqW {C d : aF} {nA nH nO : Nat} (hw : wD d nA nH nO) (R : wR d nA nH) (K : rK C d) {h : Nat} (hh : h < nH) {s : Int32} (hs : sd s) {vw vh : Int32} (hv : d 2 = vw) (hv' : d 3 = vh) : f_x C (nI h) s vw vh = p_x d h s ∧ f_y C (nI h) s vw vh = p_y d h s ∧ f_shf C (nI h) s vw vh = p_sh d h s ∧ f_arr C (nI h) s vw vh = p_ar d h s ∧ (f_gd C (nI h) s vw vh ↔ p_gd d h s) ∧ (f_in C (nI h) s vw vh ↔ p_in d h s) := by
  obtain ⟨a, ha1, ha2⟩ := hw.2.2.2.2.2.2.1 h hh
  exact f_eq K R hw.1 hw.2.1 hh ha2 ha1 hs hv hv'
/-- the two rows stand for one state -/
def rC (C d : aF) (nA nH nO B : Nat) : Prop := wD d nA nH nO ∧ wR d nA nH ∧ rK C d ∧ C 2 = d 2 ∧ C 3 = d 3 ∧ rO C d nH nO B
theorem rC_bC {C d : aF} {nA nH nO B : Nat} (hB : B < 2 ^ 30) (h : rC C d nA nH nO B) : bC C d nA nH nO := by
  obtain ⟨hw, R, K, k2, k3, hO⟩ := h
  obtain ⟨w1, w2, w3, w4, w5, w6, w7, w8, w9, w10⟩ := id hw
  have G2 : gG C 2 = d 2 := (gG_k C (k := 2) (by decide)).trans k2
  have G3 : gG C 3 = d 3 := (gG_k C (k := 3) (by decide)).trans k3
  have G0 : gG C 0 = d 0 := (gG_k C (k := 0) (by decide)).trans K.1
  have G1 : gG C 1 = d 1 := (gG_k C (k := 1) (by decide)).trans K.2.1
  have F := fun (h : Nat) (s : Int32) (hh : h < nH) (hs : sd s) => f_eqW hw R K hh hs (vw := gG C 2) (vh := gG C 3) G2.symm G3.symm
  have A : ∀ a x y w t, a < nA → (q_am C (nI a) x y w t ↔ q_mt x y w t (dA d a 0) (dA d a 1) (dA d a 2) (dA d a 3)) := fun a x y w t ha => by
    have la : a < 10 := by omega
    unfold q_am q_sm q_mt
    rw [show gA C (nI a) 0 = dA d a 0 from gA_d K la 0 (by decide), show gA C (nI a) 1 = dA d a 1 from gA_d K la 1 (by decide), show gA C (nI a) 2 = dA d a 2 from gA_d K la 2 (by decide), show gA C (nI a) 3 = dA d a 3 from gA_d K la 3 (by decide)]
    exact ⟨fun ⟨⟨a1, a2⟩, a3, a4⟩ => ⟨⟨a2, a1⟩, a4, a3⟩, fun ⟨⟨a1, a2⟩, a3, a4⟩ => ⟨⟨a2, a1⟩, a4, a3⟩⟩
  refine ⟨hw, (gG_k C (k := 4) (by decide)).trans (K.2.2.1.trans w4), (gG_k C (k := 5) (by decide)).trans (K.2.2.2.1.trans w5), fun h s hh hs => (F h s hh hs).1, fun h s hh hs => (F h s hh hs).2.1, fun h s hh hs => (F h s hh hs).2.2.2.2.2, fun h hh => gH_d K (by omega) 1 (by decide), fun h hh => gH_d K (by omega) 2 (by decide), A, ?_, gS_d K 2 (by decide), ?_, ?_, ?_, cN_open hw hB hO, rO_wI hO⟩
  · rw [show gS C 4 = d 8 from gS_d K 4 (by decide)]
    obtain ⟨k, hk, e⟩ := iR_nI (m := 1) R.2.2.2.2.2.2.1
    rw [e]
    rcases (show k = 0 ∨ k = 1 by omega) with rfl | rfl
    · exact ⟨fun _ => by decide, fun _ => rfl⟩
    · exact ⟨fun z => absurd z (by decide), fun z => absurd rfl z⟩
  · intro h hh
    obtain ⟨a, ha1, ha2⟩ := w7 h hh
    rw [show gH C (nI h) 0 = nI a from (gH_d K (by omega) 0 (by decide)).trans ha2, p_an_of ha2 (by omega)]
    have la : a < 10 := by omega
    unfold q_as q_am q_sm q_sn q_mt
    rw [show gA C (nI a) 0 = dA d a 0 from gA_d K la 0 (by decide), show gA C (nI a) 1 = dA d a 1 from gA_d K la 1 (by decide), show gA C (nI a) 2 = dA d a 2 from gA_d K la 2 (by decide), show gA C (nI a) 3 = dA d a 3 from gA_d K la 3 (by decide), G0, G1, G2, G3]
  · intro h hh a
    have lh : h < 12 := by omega
    rw [show gH C (nI h) 9 = d (160 + h) from (gH_k C (k := 9) lh (by decide)).trans (K.2.2.2.2.2.2.2 h lh), show gH C (nI h) 3 = dH d h 3 from gH_d K lh 3 (by decide), show gH C (nI h) 5 = dH d h 5 from gH_d K lh 5 (by decide), show gS C 3 = d 7 from gS_d K 3 (by decide)]
    exact trL_ok (w9 h hh) (w8 h hh) (R.2.1 h hh).2.2.2.1 R.2.2.2.2.2.1
  · intro OR i v hi
    exact orW_at hw K hB hO hi nH (Nat.le_refl _) (ordL_mem hw (List.mem_of_getElem? hi))
