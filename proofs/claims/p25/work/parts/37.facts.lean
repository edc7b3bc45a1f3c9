/-! WHAT IS SHOWN: the facts of an arrangement -/
theorem p_try_ok (d on : aF) (nA nH h : Nat) : ∀ (L : List Int32) (r : Int32), (r = 3 ∨ r = 4) →
    ((p_try d on nA nH h L r).1 = 0 ∧ (p_try d on nA nH h L r).2 ∈ L ∧ p_in d h (p_try d on nA nH h L r).2 ∧ ¬ oB d on nA nH (p_x d h (p_try d on nA nH h L r).2) (p_y d h (p_try d on nA nH h L r).2) (dH d h 1) (dH d h 2)) ∨
    ((p_try d on nA nH h L r).2 = -1 ∧ ((p_try d on nA nH h L r).1 = 3 ∨ (p_try d on nA nH h L r).1 = 4))
  | [], r, hr => Or.inr ⟨rfl, hr⟩
  | s :: L, r, hr => by
    unfold p_try
    by_cases h1 : p_in d h s
    · rw [iif_t h1]
      by_cases h2 : oB d on nA nH (p_x d h s) (p_y d h s) (dH d h 1) (dH d h 2)
      · rw [iif_t h2]
        rcases p_try_ok d on nA nH h L 4 (Or.inr rfl) with ⟨a, b, c, e⟩ | q
        · exact Or.inl ⟨a, List.mem_cons_of_mem _ b, c, e⟩
        · exact Or.inr q
      · rw [iif_f h2]
        exact Or.inl ⟨rfl, List.mem_cons_self, h1, h2⟩
    · rw [iif_f h1]
      rcases p_try_ok d on nA nH h L r hr with ⟨a, b, c, e⟩ | q
      · exact Or.inl ⟨a, List.mem_cons_of_mem _ b, c, e⟩
      · exact Or.inr q
theorem tR_ok {d on : aF} {nA nH nO : Nat} (hw : wD d nA nH nO) (shn : Int32) {h : Nat} (hh : h < nH) :
    ((tR d on nA nH shn h).1 = 0 ∧ sd (tR d on nA nH shn h).2 ∧ p_in d h (tR d on nA nH shn h).2 ∧ (¬ oB d on nA nH (p_x d h (tR d on nA nH shn h).2) (p_y d h (tR d on nA nH shn h).2) (dH d h 1) (dH d h 2)) ∧ q_sn d (p_an d h) ∧ shn < d 6) ∨
    ((tR d on nA nH shn h).2 = -1 ∧ (((tR d on nA nH shn h).1 = 2 ∧ ¬ q_sn d (p_an d h)) ∨ (tR d on nA nH shn h).1 = 3 ∨ (tR d on nA nH shn h).1 = 4 ∨ ((tR d on nA nH shn h).1 = 5 ∧ ¬ shn < d 6))) := by
  unfold tR
  by_cases g : q_sn d (p_an d h)
  · rw [iif_t g]
    by_cases g2 : shn < d 6
    · rw [if_pos g2]
      rcases p_try_ok d on nA nH h (tryL d h) 3 (Or.inl rfl) with ⟨a, b, c, e⟩ | ⟨a, b⟩
      · exact Or.inl ⟨a, tryL_sd (hw.2.2.2.2.2.2.2.1 h hh) (hw.2.2.2.2.2.2.2.2.1 h hh) _ b, c, e, g, g2⟩
      · exact Or.inr ⟨a, b.elim (fun z => Or.inr (Or.inl z)) (fun z => Or.inr (Or.inr (Or.inl z)))⟩
    · rw [if_neg g2]
      exact Or.inr ⟨rfl, Or.inr (Or.inr (Or.inr ⟨rfl, g2⟩))⟩
  · rw [iif_f g]
    exact Or.inr ⟨rfl, Or.inl ⟨rfl, g⟩⟩
/-- S stands while the hints of L are still to come, of those of L0 -/
def aI (d : aF) (nH q : Nat) (L0 L : List Nat) (S : aF × aF × Int32) : Prop :=
  (∀ h, h ∈ L → S.1 h = 1 ∧ S.2.1 h = -1) ∧
  (∀ h, ¬ S.2.1 h = -1 → sd (S.2.1 h) ∧ S.1 h = 0 ∧ p_in d h (S.2.1 h)) ∧
  (∀ h, S.2.1 h = -1 → S.1 h = 1 ∨ (S.1 h = 2 ∧ ¬ q_sn d (p_an d h)) ∨ S.1 h = 3 ∨ S.1 h = 4 ∨ (S.1 h = 5 ∧ S.2.2 = d 6)) ∧
  (∀ h k, h < nH → k < nH → ¬ h = k → ¬ S.2.1 h = -1 → ¬ S.2.1 k = -1 → ¬ q_mt (p_x d h (S.2.1 h)) (p_y d h (S.2.1 h)) (dH d h 1) (dH d h 2) (p_x d k (S.2.1 k)) (p_y d k (S.2.1 k)) (dH d k 1) (dH d k 2)) ∧
  (∀ h, S.1 h = 1 → h ∈ L ∨ ¬ h ∈ L0) ∧ (∀ h, ¬ h ∈ L0 → S.1 h = 1) ∧
  (∃ c, S.2.2 = nI c ∧ c ≤ q)
theorem aI_step {d : aF} {nA nH nO q : Nat} (hw : wD d nA nH nO) (hq : d 6 = nI q) (hq2 : q < 1000) {L0 L : List Nat} {S : aF × aF × Int32} {x : Nat} (hx : x < nH) (hx0 : x ∈ L0) (hn : ¬ x ∈ L) (h : aI d nH q L0 (x :: L) S) : aI d nH q L0 L (p_step d nA nH S x) := by
  obtain ⟨W, on, shn⟩ := S
  obtain ⟨a1, a2, a3, a4, a5, a6, c, a7, a8⟩ := h
  have a7 : shn = nI c := a7
  obtain ⟨b1, b2⟩ := a1 x List.mem_cons_self
  have b1 : W x = 1 := b1
  have b2 : on x = -1 := b2
  rw [p_step_tR b2]
  have key := tR_ok (on := on) (nA := nA) hw shn hx
  generalize tR d on nA nH shn x = t at key
  obtain ⟨r, s⟩ := t
  have key : (r = 0 ∧ sd s ∧ p_in d x s ∧ (¬ oB d on nA nH (p_x d x s) (p_y d x s) (dH d x 1) (dH d x 2)) ∧ q_sn d (p_an d x) ∧ shn < d 6) ∨ (s = -1 ∧ ((r = 2 ∧ ¬ q_sn d (p_an d x)) ∨ r = 3 ∨ r = 4 ∨ (r = 5 ∧ ¬ shn < d 6))) := key
  have lt : ∀ {e : Nat}, e < 1000 → (nI e < d 6 ↔ e < q) := fun he => by rw [hq]; exact nI_ltI (by omega) (by omega)
  have e1 : ∀ h, h ∈ L → upd W x r h = 1 ∧ upd on x s h = -1 := fun h hh => by
    have hne : h ≠ x := fun z => by rw [z] at hh; exact hn hh
    rw [upd_ne hne, upd_ne hne]
    exact a1 h (List.mem_cons_of_mem _ hh)
  have e6 : ∀ h, ¬ h ∈ L0 → upd W x r h = 1 := fun h hh => by
    have hne : h ≠ x := fun z => by rw [z] at hh; exact hh hx0
    rw [upd_ne hne]
    exact a6 h hh
  have nr : ¬ r = 1 := by
    rcases key with k | ⟨-, k | k | k | k⟩
    · rw [k.1]; decide
    · rw [k.1]; decide
    · rw [k]; decide
    · rw [k]; decide
    · rw [k.1]; decide
  have e5 : ∀ h, upd W x r h = 1 → h ∈ L ∨ ¬ h ∈ L0 := fun h hh => by
    by_cases hne : h = x
    · rw [hne, upd_at] at hh
      exact absurd hh nr
    · rw [upd_ne hne] at hh
      rcases a5 h hh with z | z
      · exact Or.inl ((List.mem_cons.mp z).resolve_left hne)
      · exact Or.inr z
  rcases key with ⟨k1, k2, k3, k4, k5, k6⟩ | ⟨k1, k2⟩
  · have ns := sd_ne k2
    have hc : c < q := by rw [a7] at k6; exact (lt (by omega)).mp k6
    refine ⟨e1, fun h hh => ?_, fun h hh => ?_, fun h k hh hk hne h1 h2 => ?_, e5, e6, c + 1, ?_, by omega⟩
    · by_cases hne : h = x
      · subst hne
        show sd (upd on h s h) ∧ upd W h r h = 0 ∧ p_in d h (upd on h s h)
        rw [upd_at, upd_at]
        exact ⟨k2, k1, k3⟩
      · have hh : ¬ upd on x s h = -1 := hh
        rw [upd_ne hne] at hh
        show sd (upd on x s h) ∧ upd W x r h = 0 ∧ p_in d h (upd on x s h)
        rw [upd_ne hne, upd_ne hne]
        exact a2 h hh
    · have hh : upd on x s h = -1 := hh
      have hne : ¬ h = x := fun z => by rw [z, upd_at] at hh; exact ns hh
      rw [upd_ne hne] at hh
      show upd W x r h = 1 ∨ (upd W x r h = 2 ∧ _) ∨ upd W x r h = 3 ∨ upd W x r h = 4 ∨ (upd W x r h = 5 ∧ _)
      rw [upd_ne hne]
      rcases a3 h hh with z | z | z | z | z
      · exact Or.inl z
      · exact Or.inr (Or.inl z)
      · exact Or.inr (Or.inr (Or.inl z))
      · exact Or.inr (Or.inr (Or.inr (Or.inl z)))
      · have z2 : shn = d 6 := z.2
        rw [z2] at k6
        exact absurd k6 (fun z => Int32.lt_irrefl z)
    · have g1 : ¬ upd on x s h = -1 := h1
      have g2 : ¬ upd on x s k = -1 := h2
      show ¬ q_mt (p_x d h (upd on x s h)) (p_y d h (upd on x s h)) _ _ (p_x d k (upd on x s k)) (p_y d k (upd on x s k)) _ _
      by_cases hhx : h = x
      · subst hhx
        have hkx : ¬ k = h := fun z => hne z.symm
        rw [upd_ne hkx] at g2
        rw [upd_at, upd_ne hkx]
        exact fun z => k4 (Or.inr ⟨k, hk, g2, z⟩)
      · rw [upd_ne hhx] at g1
        by_cases hkx : k = x
        · subst hkx
          rw [upd_at, upd_ne hhx]
          exact fun z => k4 (Or.inr ⟨h, hh, g1, q_mt_sym.mp z⟩)
        · rw [upd_ne hkx] at g2
          rw [upd_ne hhx, upd_ne hkx]
          exact a4 h k hh hk hne g1 g2
    · show (if s = -1 then shn else shn + 1) = nI (c + 1)
      rw [if_neg ns, a7, nI_1]
  · have eo : upd on x s = on := by rw [k1]; exact upd_same b2
    have es : (if s = -1 then shn else shn + 1) = shn := if_pos k1
    show aI d nH q L0 L (upd W x r, upd on x s, if s = -1 then shn else shn + 1)
    rw [eo, es]
    rw [eo] at e1
    refine ⟨e1, fun h hh => ?_, fun h hh => ?_, a4, e5, e6, c, a7, a8⟩
    · have hh : ¬ on h = -1 := hh
      have hne : ¬ h = x := fun z => by rw [z] at hh; exact hh b2
      show sd (on h) ∧ upd W x r h = 0 ∧ p_in d h (on h)
      rw [upd_ne hne]
      exact a2 h hh
    · show upd W x r h = 1 ∨ (upd W x r h = 2 ∧ _) ∨ upd W x r h = 3 ∨ upd W x r h = 4 ∨ (upd W x r h = 5 ∧ shn = d 6)
      by_cases hne : h = x
      · rw [hne, upd_at]
        rcases k2 with z | z | z | ⟨z, z2⟩
        · exact Or.inr (Or.inl z)
        · exact Or.inr (Or.inr (Or.inl z))
        · exact Or.inr (Or.inr (Or.inr (Or.inl z)))
        · refine Or.inr (Or.inr (Or.inr (Or.inr ⟨z, ?_⟩)))
          rw [a7, lt (by omega)] at z2
          rw [a7, hq]
          congr 1
          omega
      · rw [upd_ne hne]
        exact a3 h hh
theorem aI_run {d : aF} {nA nH nO q : Nat} (hw : wD d nA nH nO) (hq : d 6 = nI q) (hq2 : q < 1000) {L0 : List Nat} : ∀ (L : List Nat) (S : aF × aF × Int32), L.Nodup → (∀ x ∈ L, x < nH ∧ x ∈ L0) → aI d nH q L0 L S → aI d nH q L0 [] (p_run d nA nH S L)
  | [], S, _, _, h => h
  | x :: L, S, hn, hL, h => by
    obtain ⟨n1, n2⟩ := List.nodup_cons.mp hn
    obtain ⟨x1, x2⟩ := hL x List.mem_cons_self
    exact aI_run hw hq hq2 L _ n2 (fun y hy => hL y (List.mem_cons_of_mem _ hy)) (aI_step hw hq hq2 x1 x2 n1 h)
/-- the facts of an arrangement -/
theorem aI_all {d : aF} {nA nH nO q : Nat} (hw : wD d nA nH nO) (hi : wI d nO) (hq : d 6 = nI q) (hq2 : q < 1000) : aI d nH q (ordL d nO) [] (p_all d nA nH nO) :=
  aI_run hw hq hq2 (ordL d nO) _ (ordL_nodup hi) (fun x hx => ⟨ordL_mem hw hx, hx⟩) ⟨fun h hh => ⟨rfl, rfl⟩, fun h hh => absurd rfl hh, fun h hh => Or.inl rfl, fun h k _ _ _ h1 _ => absurd rfl h1, fun h _ => (Classical.em (h ∈ ordL d nO)), fun h _ => rfl, 0, rfl, Nat.zero_le _⟩
theorem cN_sub {P Q : Nat → Prop} (h : ∀ o, P o → Q o) : ∀ n, cN P n ≤ cN Q n
  | 0 => Nat.le_refl _
  | n + 1 => by
    have ih := cN_sub h n
    unfold cN
    by_cases p : P n
    · rw [iif_t p, iif_t (h n p)]; omega
    · rw [iif_f p]
      by_cases q : Q n
      · rw [iif_t q]; omega
      · rw [iif_f q]; exact ih
/-- what an arrangement shows, in short: why, side, how many -/
theorem p_facts {d : aF} {nA nH nO : Nat} (hw : wD d nA nH nO) (hi : wI d nO) (hR : wR d nA nH) :
    (∀ h, ¬ (p_all d nA nH nO).2.1 h = -1 → sd ((p_all d nA nH nO).2.1 h) ∧ (p_all d nA nH nO).1 h = 0 ∧ p_in d h ((p_all d nA nH nO).2.1 h)) ∧
    (∀ h, (p_all d nA nH nO).2.1 h = -1 → (p_all d nA nH nO).1 h = 1 ∨ ((p_all d nA nH nO).1 h = 2 ∧ ¬ q_sn d (p_an d h)) ∨ (p_all d nA nH nO).1 h = 3 ∨ (p_all d nA nH nO).1 h = 4 ∨ ((p_all d nA nH nO).1 h = 5 ∧ (p_all d nA nH nO).2.2 = d 6)) ∧
    (∀ h k, h < nH → k < nH → ¬ h = k → ¬ (p_all d nA nH nO).2.1 h = -1 → ¬ (p_all d nA nH nO).2.1 k = -1 → ¬ q_mt (p_x d h ((p_all d nA nH nO).2.1 h)) (p_y d h ((p_all d nA nH nO).2.1 h)) (dH d h 1) (dH d h 2) (p_x d k ((p_all d nA nH nO).2.1 k)) (p_y d k ((p_all d nA nH nO).2.1 k)) (dH d k 1) (dH d k 2)) ∧
    (∀ h, (p_all d nA nH nO).1 h = 1 ↔ ¬ h ∈ ordL d nO) ∧
    (∃ c q, (p_all d nA nH nO).2.2 = nI c ∧ c = cN (fun k => ¬ (p_all d nA nH nO).2.1 k = -1) nH ∧ d 6 = nI q ∧ c ≤ q ∧ q ≤ 6 ∧ c ≤ nO ∧ c ≤ 12) := by
  obtain ⟨q, hq6, hq⟩ := iR_nI (m := 6) (iR_mono hR.2.2.2.2.1 (by omega) (by omega))
  obtain ⟨-, a2, a3, a4, a5, a6, c, a7, a8⟩ := aI_all hw hi hq (by omega)
  refine ⟨a2, a3, a4, fun h => ⟨fun z => (a5 h z).resolve_left (by simp), a6 h⟩, c, q, a7, ?_, hq, a8, hq6, ?_⟩
  · have e := p_all_cnt hw hi
    rw [cP_nI, a7] at e
    exact (nI_eq (by omega) (Nat.lt_of_le_of_lt (cN_le _ _) (by have := hw.2.1; omega))).mp e
  · have e := p_all_cnt hw hi
    rw [cP_nI, a7] at e
    have e1 := (nI_eq (by omega) (Nat.lt_of_le_of_lt (cN_le _ _) (by have := hw.2.1; omega))).mp e
    have e2 : cN (fun k => ¬ (p_all d nA nH nO).2.1 k = -1) nH ≤ cN (fun k => k ∈ ordL d nO) nH := cN_sub (fun o ho => Classical.byContradiction (fun z => by
      have := a6 o z
      rw [(a2 o ho).2.1] at this
      exact absurd this (by decide))) nH
    have e3 : cN (fun k => k ∈ ordL d nO) nH = nO := by rw [cN_mem (ordL d nO) (ordL_nodup hi) (fun x hx => ordL_mem hw hx), ordL_len]
    have := hw.2.2.1
    omega
