/-! WHAT A ROW MEANS: places, tries, order, which are shown -/
def dA (d : aF) (a k : Nat) : Int32 := d (10 + 10 * k + a)
def dH (d : aF) (h k : Nat) : Int32 := d (51 + 12 * k + h)
def q_rg (v lo hi : Int32) : Prop := ¬ v < lo ∧ ¬ hi < v
def q_mt (x y w h ox oy ow oh : Int32) : Prop := (¬ ox + ow ≤ x ∧ ¬ x + w ≤ ox) ∧ (¬ oy + oh ≤ y ∧ ¬ y + h ≤ oy)
def q_sn (d : aF) (a : Nat) : Prop := q_mt (dA d a 0) (dA d a 1) (dA d a 2) (dA d a 3) (d 0) (d 1) (d 2) (d 3)
def v_half (v : Int32) : Int32 := if v < 0 then -((1 - v) / 2) else v / 2
def v_by (b l fr sz : Int32) : Int32 := if fr ≤ b then (if b + l ≤ fr + sz then 0 else fr + sz - l - b) else fr - b
noncomputable def v_ms (m b l p fr sz : Int32) : Int32 := if l ≤ sz then iif (q_gd p l m) (if v_by b l fr sz ≤ p - m then (if p - (l - 1 - m) ≤ v_by b l fr sz then v_by b l fr sz else p - (l - 1 - m)) else p - m) (v_by b l fr sz) else 0
def p_an (d : aF) (h : Nat) : Nat := (dH d h 0).toNatClampNeg
noncomputable def p_bg (d : aF) (h : Nat) (s : Int32) : Int32 := iif (q_lv s) (dA d (p_an d h) 0) (dA d (p_an d h) 1)
noncomputable def p_sz (d : aF) (h : Nat) (s : Int32) : Int32 := iif (q_lv s) (dA d (p_an d h) 2) (dA d (p_an d h) 3)
noncomputable def p_ln (d : aF) (h : Nat) (s : Int32) : Int32 := iif (q_lv s) (dH d h 1) (dH d h 2)
noncomputable def p_b0 (d : aF) (h : Nat) (s : Int32) : Int32 := if dH d h 4 = 0 then p_bg d h s else if dH d h 4 = 1 then p_bg d h s + v_half (p_sz d h s - p_ln d h s) else p_bg d h s + p_sz d h s - p_ln d h s
noncomputable def p_a0 (d : aF) (h : Nat) (s : Int32) : Int32 := p_bg d h s + p_sz d h s / 2 - p_b0 d h s
noncomputable def p_sh (d : aF) (h : Nat) (s : Int32) : Int32 := if dH d h 6 = 1 then v_ms (d 5) (p_b0 d h s) (p_ln d h s) (p_a0 d h s) (iif (q_lv s) (d 0) (d 1)) (iif (q_lv s) (d 2) (d 3)) else 0
noncomputable def p_ar (d : aF) (h : Nat) (s : Int32) : Int32 := p_a0 d h s - p_sh d h s
def p_gd (d : aF) (h : Nat) (s : Int32) : Prop := q_gd (p_ar d h s) (p_ln d h s) (d 5)
noncomputable def p_al (d : aF) (h : Nat) (s : Int32) : Int32 := p_b0 d h s + p_sh d h s
noncomputable def p_x (d : aF) (h : Nat) (s : Int32) : Int32 := iif (q_lv s) (p_al d h s) (iif (q_bf s) (dA d (p_an d h) 0 - d 4 - dH d h 1) (dA d (p_an d h) 0 + dA d (p_an d h) 2 + d 4))
noncomputable def p_y (d : aF) (h : Nat) (s : Int32) : Int32 := iif (q_lv s) (iif (q_bf s) (dA d (p_an d h) 1 - d 4 - dH d h 2) (dA d (p_an d h) 1 + dA d (p_an d h) 3 + d 4)) (p_al d h s)
def p_in (d : aF) (h : Nat) (s : Int32) : Prop := q_sl (p_x d h s) (dH d h 1) (d 0) (d 2) ∧ q_sl (p_y d h s) (dH d h 2) (d 1) (d 3)
theorem iif_lv0 {a b : Int32} : iif (q_lv 0) a b = a := iif_t (Or.inl rfl)
theorem iif_lv1 {a b : Int32} : iif (q_lv 1) a b = b := iif_f (fun z => by rcases z with z | z <;> exact absurd z (by decide))
theorem iif_lv2 {a b : Int32} : iif (q_lv 2) a b = a := iif_t (Or.inr rfl)
theorem iif_lv3 {a b : Int32} : iif (q_lv 3) a b = b := iif_f (fun z => by rcases z with z | z <;> exact absurd z (by decide))
theorem iif_bf0 {a b : Int32} : iif (q_bf 0) a b = a := iif_t (Or.inl rfl)
theorem iif_bf1 {a b : Int32} : iif (q_bf 1) a b = b := iif_f (fun z => by rcases z with z | z <;> exact absurd z (by decide))
theorem iif_bf2 {a b : Int32} : iif (q_bf 2) a b = b := iif_f (fun z => by rcases z with z | z <;> exact absurd z (by decide))
theorem iif_bf3 {a b : Int32} : iif (q_bf 3) a b = a := iif_t (Or.inr rfl)
theorem p_an_of {d : aF} {h a : Nat} (e : dH d h 0 = nI a) (ha : a < 10) : p_an d h = a := by unfold p_an; rw [e, nI_clamp (by omega)]
def sd (s : Int32) : Prop := s = 0 ∨ s = 1 ∨ s = 2 ∨ s = 3
def tU (T : tT) (L : List Int32) : Prop := T.2 = nI L.length ∧ L.length ≤ 5 ∧ ∀ (i : Nat) (v : Int32), L[i]? = some v → T.1 i = v
def addU (T : tT) (L : List Int32) (s : Int32) : tT := if s ∈ L then T else (upd T.1 L.length s, nI (L.length + 1))
theorem tU0 (a : aF) : tU (a, 0) [] := ⟨rfl, Nat.zero_le _, fun i v h => by simp at h⟩
theorem tU_add {T : tT} {L : List Int32} {s : Int32} (h : tU T L) (hs : L.length ≤ 4) : tU (addU T L s) (addL L s) := by
  obtain ⟨h1, h2, h3⟩ := h
  unfold addU addL
  by_cases hm : s ∈ L
  · rw [if_pos hm, if_pos hm]
    exact ⟨h1, h2, h3⟩
  · rw [if_neg hm, if_neg hm]
    refine ⟨by simp, by simp; omega, fun i v hi => ?_⟩
    show upd T.1 L.length s i = v
    unfold upd
    by_cases q : i = L.length
    · subst q
      rw [if_pos rfl]
      simpa using hi
    · rw [if_neg q]
      refine h3 i v ?_
      have hlt : i < (L ++ [s]).length := (List.getElem?_eq_some_iff.mp hi).1
      simp at hlt
      rw [List.getElem?_append_left (by omega)] at hi
      exact hi
def sU (p : tT × List Int32) (s : Int32) : tT × List Int32 := (addU p.1 p.2 s, addL p.2 s)
def tu1 (T : tT) (rm re : Int32) : tT × List Int32 := if re = 1 then if rm = -1 then (T, []) else sU (T, []) rm else (T, [])
def tu3 (p : tT × List Int32) (own fl : Int32) : tT × List Int32 := if fl ≤ 0 then sU p own else sU (sU p own) (m4 (own + 2))
def tu4 (p : tT × List Int32) (own fl : Int32) : tT × List Int32 := if fl = 2 then sU (sU (tu3 p own fl) (m4 (own + 1))) (m4 (own + 3)) else tu3 p own fl
def trU (T : tT) (rm own fl re : Int32) : tT × List Int32 := tu4 (tu1 T rm re) own fl
theorem sU_ok {p : tT × List Int32} {s : Int32} {n : Nat} (h : tU p.1 p.2 ∧ p.2.length ≤ n) (hn : n ≤ 4) : tU (sU p s).1 (sU p s).2 ∧ (sU p s).2.length ≤ n + 1 := by
  refine ⟨tU_add h.1 (by omega), ?_⟩
  have := addL_len p.2 s
  show (addL p.2 s).length ≤ n + 1
  omega
theorem tu1_ok (a : aF) (rm re : Int32) : tU (tu1 (a, 0) rm re).1 (tu1 (a, 0) rm re).2 ∧ (tu1 (a, 0) rm re).2.length ≤ 1 := by
  unfold tu1
  split
  · split
    · exact ⟨tU0 a, Nat.zero_le _⟩
    · exact sU_ok (p := ((a, 0), [])) (n := 0) ⟨tU0 a, Nat.le_refl _⟩ (by omega)
  · exact ⟨tU0 a, Nat.zero_le _⟩
theorem tu3_ok {p : tT × List Int32} (own fl : Int32) (h : tU p.1 p.2 ∧ p.2.length ≤ 1) : tU (tu3 p own fl).1 (tu3 p own fl).2 ∧ (tu3 p own fl).2.length ≤ 3 := by
  unfold tu3
  split
  · have := sU_ok (s := own) h (by omega)
    exact ⟨this.1, by omega⟩
  · exact sU_ok (sU_ok h (by omega)) (by omega)
theorem trU_ok (a : aF) (rm own fl re : Int32) : tU (trU (a, 0) rm own fl re).1 (trU (a, 0) rm own fl re).2 := by
  have h := tu3_ok own fl (tu1_ok a rm re)
  unfold trU tu4
  split
  · exact (sU_ok (sU_ok h (by omega)) (by omega)).1
  · exact h.1
def wD (d : aF) (nA nH nO : Nat) : Prop := nA ≤ 10 ∧ nH ≤ 12 ∧ nO ≤ 12 ∧ d 9 = nI nA ∧ d 50 = nI nH ∧ d 147 = nI nO ∧ (∀ h, h < nH → ∃ a, a < nA ∧ dH d h 0 = nI a) ∧ (∀ h, h < nH → sd (dH d h 3)) ∧ (∀ h, h < nH → d (160 + h) = -1 ∨ sd (d (160 + h))) ∧ (∀ j, j < nO → ∃ h, h < nH ∧ d (148 + j) = nI h)
def oA (d : aF) (x y w t : Int32) (k : Nat) : Prop := d 8 = 1 ∧ ∃ a, a < k ∧ q_mt x y w t (dA d a 0) (dA d a 1) (dA d a 2) (dA d a 3)
def oH (d on : aF) (x y w t : Int32) (k : Nat) : Prop := ∃ o, o < k ∧ ¬ on o = -1 ∧ q_mt x y w t (p_x d o (on o)) (p_y d o (on o)) (dH d o 1) (dH d o 2)
def oB (d on : aF) (nA nH : Nat) (x y w t : Int32) : Prop := oA d x y w t nA ∨ oH d on x y w t nH
theorem oA_s {d : aF} {x y w t : Int32} {k : Nat} : oA d x y w t (k + 1) ↔ (oA d x y w t k ∨ (d 8 = 1 ∧ q_mt x y w t (dA d k 0) (dA d k 1) (dA d k 2) (dA d k 3))) := by
  constructor
  · rintro ⟨h1, a, ha, h2⟩
    by_cases q : a = k
    · subst q; exact Or.inr ⟨h1, h2⟩
    · exact Or.inl ⟨h1, a, by omega, h2⟩
  · rintro (⟨h1, a, ha, h2⟩ | ⟨h1, h2⟩)
    · exact ⟨h1, a, by omega, h2⟩
    · exact ⟨h1, k, by omega, h2⟩
theorem oH_s {d on : aF} {x y w t : Int32} {k : Nat} : oH d on x y w t (k + 1) ↔ (oH d on x y w t k ∨ (¬ on k = -1 ∧ q_mt x y w t (p_x d k (on k)) (p_y d k (on k)) (dH d k 1) (dH d k 2))) := by
  constructor
  · rintro ⟨a, ha, h1, h2⟩
    by_cases q : a = k
    · subst q; exact Or.inr ⟨h1, h2⟩
    · exact Or.inl ⟨a, by omega, h1, h2⟩
  · rintro (⟨a, ha, h1, h2⟩ | ⟨h1, h2⟩)
    · exact ⟨a, by omega, h1, h2⟩
    · exact ⟨k, by omega, h1, h2⟩
theorem oA_0 {d : aF} {x y w t : Int32} : ¬ oA d x y w t 0 := fun ⟨_, a, ha, _⟩ => absurd ha (by omega)
theorem oH_0 {d on : aF} {x y w t : Int32} : ¬ oH d on x y w t 0 := fun ⟨a, ha, _⟩ => absurd ha (by omega)
theorem sd_ne {s : Int32} (h : sd s) : ¬ s = -1 := by rcases h with rfl | rfl | rfl | rfl <;> decide
/-- a list of hints tried on the sides of a list: reason, side -/
noncomputable def p_try (d on : aF) (nA nH h : Nat) : List Int32 → Int32 → Int32 × Int32
  | [], r => (r, -1)
  | s :: L, r => iif (p_in d h s) (iif (oB d on nA nH (p_x d h s) (p_y d h s) (dH d h 1) (dH d h 2)) (p_try d on nA nH h L 4) (0, s)) (p_try d on nA nH h L r)
def tryL (d : aF) (h : Nat) : List Int32 := (trU ((fun _ => 0), 0) (d (160 + h)) (dH d h 3) (dH d h 5) (d 7)).2
theorem trU_2 (T T' : tT) (rm own fl re : Int32) : (trU T rm own fl re).2 = (trU T' rm own fl re).2 := by
  have h1 : (tu1 T rm re).2 = (tu1 T' rm re).2 := by
    unfold tu1
    split
    · split <;> rfl
    · rfl
  have h3 : ∀ (p p' : tT × List Int32), p.2 = p'.2 → (tu3 p own fl).2 = (tu3 p' own fl).2 := by
    intro p p' e
    unfold tu3
    split
    · show addL p.2 own = addL p'.2 own; rw [e]
    · show addL (addL p.2 own) _ = addL (addL p'.2 own) _; rw [e]
  unfold trU tu4
  split
  · show addL (addL (tu3 _ own fl).2 _) _ = addL (addL (tu3 _ own fl).2 _) _
    rw [h3 _ _ h1]
  · exact h3 _ _ h1
theorem addL_sd {L : List Int32} {s : Int32} (h : ∀ x ∈ L, sd x) (hs : sd s) : ∀ x ∈ addL L s, sd x := by
  unfold addL
  split
  · exact h
  · intro x hx
    rcases List.mem_append.mp hx with q | q
    · exact h x q
    · rw [List.mem_singleton.mp q]; exact hs
theorem sd_m4 {s : Int32} (h : sd s) : sd (m4 (s + 1)) ∧ sd (m4 (s + 2)) ∧ sd (m4 (s + 3)) := by rcases h with rfl | rfl | rfl | rfl <;> exact ⟨by unfold sd; decide, by unfold sd; decide, by unfold sd; decide⟩
theorem tryL_sd {d : aF} {h : Nat} (h1 : sd (dH d h 3)) (h2 : d (160 + h) = -1 ∨ sd (d (160 + h))) : ∀ s ∈ tryL d h, sd s := by
  have key : ∀ (T : tT) (fl re rm own : Int32), sd own → (rm = -1 ∨ sd rm) → ∀ s ∈ (trU T rm own fl re).2, sd s := by
    intro T fl re rm own ho hr
    have a1 : ∀ s ∈ (tu1 T rm re).2, sd s := by
      unfold tu1
      split
      · split
        · intro s hs; cases hs
        · rename_i _ hne
          exact addL_sd (fun x hx => absurd hx List.not_mem_nil) (hr.resolve_left hne)
      · intro s hs; cases hs
    have a3 : ∀ s ∈ (tu3 (tu1 T rm re) own fl).2, sd s := by
      unfold tu3
      split
      · exact addL_sd a1 ho
      · exact addL_sd (addL_sd a1 ho) (sd_m4 ho).2.1
    unfold trU tu4
    split
    · exact addL_sd (addL_sd a3 (sd_m4 ho).1) (sd_m4 ho).2.2
    · exact a3
  exact key _ _ _ _ _ h1 h2
theorem upd_same {f : aF} {k : Nat} {v : Int32} (h : f k = v) : upd f k v = f := by
  funext j
  unfold upd
  split
  · rename_i e; rw [e, h]
  · rfl
theorem upd_upd (f : aF) (k : Nat) (v w : Int32) : upd (upd f k v) k w = upd f k w := by
  funext j
  unfold upd
  split <;> rfl
theorem upd_at (f : aF) (k : Nat) (v : Int32) : upd f k v k = v := by unfold upd; exact if_pos rfl
theorem upd_ne {f : aF} {k j : Nat} {v : Int32} (h : j ≠ k) : upd f k v j = f j := by unfold upd; exact if_neg h
def pr (d : aF) (h : Nat) : Int32 := dH d h 7
/-- a hint put into the order, the order's end first -/
def insR (d : aF) (h : Nat) : List Nat → List Nat
  | [] => [h]
  | x :: R => if pr d h ≤ pr d x then h :: x :: R else x :: insR d h R
def op (d : aF) (j : Nat) : Nat := (d (148 + j)).toNatClampNeg
def ordR (d : aF) : Nat → List Nat
  | 0 => []
  | k + 1 => insR d (op d k) (ordR d k)
def ordL (d : aF) (nO : Nat) : List Nat := (ordR d nO).reverse
def oF (f : aF) (L : List Nat) : Prop := ∀ (i v : Nat), L[i]? = some v → f i = nI v
theorem insR_len (d : aF) (h : Nat) : ∀ R, (insR d h R).length = R.length + 1
  | [] => rfl
  | x :: R => by
    unfold insR
    split
    · rfl
    · simp [insR_len d h R]
theorem ordR_len (d : aF) : ∀ k, (ordR d k).length = k
  | 0 => rfl
  | k + 1 => by rw [ordR, insR_len, ordR_len d k]
theorem insR_mem (d : aF) (h : Nat) : ∀ R x, x ∈ insR d h R ↔ (x = h ∨ x ∈ R)
  | [], x => by simp [insR]
  | y :: R, x => by
    unfold insR
    split
    · simp
    · simp only [List.mem_cons, insR_mem d h R x]
      constructor
      · rintro (q | q | q) <;> simp [q]
      · rintro (q | q | q) <;> simp [q]
theorem ordR_mem (d : aF) : ∀ k x, x ∈ ordR d k ↔ ∃ j, j < k ∧ x = op d j
  | 0, x => by simp [ordR]
  | k + 1, x => by
    rw [ordR, insR_mem, ordR_mem d k x]
    constructor
    · rintro (q | ⟨j, hj, q⟩)
      · exact ⟨k, by omega, q⟩
      · exact ⟨j, by omega, q⟩
    · rintro ⟨j, hj, q⟩
      by_cases e : j = k
      · subst e; exact Or.inl q
      · exact Or.inr ⟨j, by omega, q⟩
noncomputable def p_step (d : aF) (nA nH : Nat) (S : aF × aF × Int32) (h : Nat) : aF × aF × Int32 :=
  iif (q_sn d (p_an d h)) (if S.2.2 < d 6 then (upd S.1 h (p_try d S.2.1 nA nH h (tryL d h) 3).1, upd S.2.1 h (p_try d S.2.1 nA nH h (tryL d h) 3).2, if (p_try d S.2.1 nA nH h (tryL d h) 3).2 = -1 then S.2.2 else S.2.2 + 1) else (upd S.1 h 5, S.2.1, S.2.2)) (upd S.1 h 2, S.2.1, S.2.2)
noncomputable def p_run (d : aF) (nA nH : Nat) (S : aF × aF × Int32) (L : List Nat) : aF × aF × Int32 := L.foldl (p_step d nA nH) S
theorem p_try_sd (d on : aF) (nA nH h : Nat) : ∀ (L : List Int32) (r : Int32), (∀ s ∈ L, sd s) → (p_try d on nA nH h L r).2 = -1 ∨ sd (p_try d on nA nH h L r).2
  | [], r, _ => Or.inl rfl
  | s :: L, r, hL => by
    unfold p_try
    by_cases h1 : p_in d h s
    · rw [iif_t h1]
      by_cases h2 : oB d on nA nH (p_x d h s) (p_y d h s) (dH d h 1) (dH d h 2)
      · rw [iif_t h2]; exact p_try_sd d on nA nH h L 4 (fun x hx => hL x (List.mem_cons_of_mem _ hx))
      · rw [iif_f h2]; exact Or.inr (hL s List.mem_cons_self)
    · rw [iif_f h1]; exact p_try_sd d on nA nH h L r (fun x hx => hL x (List.mem_cons_of_mem _ hx))
def wI (d : aF) (nO : Nat) : Prop := ∀ i j, i < nO → j < nO → op d i = op d j → i = j
theorem insR_perm (d : aF) (h : Nat) : ∀ R, (insR d h R).Perm (h :: R)
  | [] => List.Perm.refl _
  | x :: R => by
    unfold insR
    split
    · exact List.Perm.refl _
    · exact ((insR_perm d h R).cons x).trans (List.Perm.swap h x R)
theorem ordR_perm (d : aF) : ∀ k, (ordR d k).Perm ((List.range k).map (op d))
  | 0 => List.Perm.refl _
  | k + 1 => by
    rw [ordR, List.range_succ, List.map_append]
    refine (insR_perm d _ _).trans ?_
    exact (((ordR_perm d k).cons _)).trans (List.perm_append_singleton _ _).symm
theorem ordR_nodup {d : aF} {nO : Nat} (hi : wI d nO) : (ordR d nO).Nodup := by
  refine (ordR_perm d nO).nodup_iff.mpr ?_
  rw [List.nodup_iff_pairwise_ne, List.pairwise_iff_getElem]
  intro i j h1 h2 hij e
  simp only [List.length_map, List.length_range] at h1 h2
  simp only [List.getElem_map, List.getElem_range] at e
  have := hi i j h1 h2 e
  omega
theorem ordL_nodup {d : aF} {nO : Nat} (hi : wI d nO) : (ordL d nO).Nodup := (List.reverse_perm _).nodup_iff.mpr (ordR_nodup hi)
theorem ordL_len (d : aF) (nO : Nat) : (ordL d nO).length = nO := by unfold ordL; rw [List.length_reverse, ordR_len]
theorem ordL_mem {d : aF} {nA nH nO : Nat} (hw : wD d nA nH nO) {h : Nat} (hm : h ∈ ordL d nO) : h < nH := by
  obtain ⟨w1, w2, w3, w4, w5, w6, w7, w8, w9, w10⟩ := hw
  unfold ordL at hm
  obtain ⟨j, hj, e⟩ := (ordR_mem d nO h).mp (List.mem_reverse.mp hm)
  obtain ⟨h2, hh3, hh4⟩ := w10 j hj
  rw [e]; unfold op; rw [hh4, nI_clamp (by omega)]; exact hh3
theorem oB_congr {d on on' : aF} {nA nH : Nat} {x y w t : Int32} (h : ∀ o, o < nH → on o = on' o) : oB d on nA nH x y w t ↔ oB d on' nA nH x y w t := by
  unfold oB oH
  constructor
  · rintro (q | ⟨o, ho, h1, h2⟩)
    · exact Or.inl q
    · exact Or.inr ⟨o, ho, by rw [← h o ho]; exact h1, by rw [← h o ho]; exact h2⟩
  · rintro (q | ⟨o, ho, h1, h2⟩)
    · exact Or.inl q
    · exact Or.inr ⟨o, ho, by rw [h o ho]; exact h1, by rw [h o ho]; exact h2⟩
theorem p_try_congr {d on on' : aF} {nA nH h : Nat} (e : ∀ o, o < nH → on o = on' o) : ∀ (L : List Int32) (r : Int32), p_try d on nA nH h L r = p_try d on' nA nH h L r
  | [], r => rfl
  | s :: L, r => by
    unfold p_try
    rw [p_try_congr e L 4, p_try_congr e L r, propext (oB_congr (d := d) (nA := nA) (x := p_x d h s) (y := p_y d h s) (w := dH d h 1) (t := dH d h 2) e)]
/-- two starts alike on the first n places -/
def aS (n : Nat) (S S' : aF × aF × Int32) : Prop := (∀ j, j < n → S.1 j = S'.1 j) ∧ (∀ j, j < n → S.2.1 j = S'.2.1 j) ∧ S.2.2 = S'.2.2
theorem upd_congr {f g : aF} {n k : Nat} {v : Int32} (h : ∀ j, j < n → f j = g j) : ∀ j, j < n → upd f k v j = upd g k v j := by
  intro j hj
  unfold upd
  split
  · rfl
  · exact h j hj
theorem p_step_congr {d : aF} {nA nH n : Nat} {S S' : aF × aF × Int32} (hn : nH ≤ n) (h : aS n S S') (k : Nat) : aS n (p_step d nA nH S k) (p_step d nA nH S' k) := by
  obtain ⟨h1, h2, h3⟩ := h
  have e := p_try_congr (d := d) (nA := nA) (h := k) (on := S.2.1) (on' := S'.2.1) (nH := nH) (fun o ho => h2 o (by omega)) (tryL d k) 3
  unfold p_step
  rw [e, h3]
  by_cases q : q_sn d (p_an d k)
  · rw [iif_t q, iif_t q]
    split
    · exact ⟨upd_congr h1, upd_congr h2, rfl⟩
    · exact ⟨upd_congr h1, h2, rfl⟩
  · rw [iif_f q, iif_f q]
    exact ⟨upd_congr h1, h2, rfl⟩
theorem p_run_congr {d : aF} {nA nH n : Nat} (hn : nH ≤ n) : ∀ (L : List Nat) {S S' : aF × aF × Int32}, aS n S S' → aS n (p_run d nA nH S L) (p_run d nA nH S' L)
  | [], _, _, h => h
  | k :: L, _, _, h => p_run_congr hn L (p_step_congr hn h k)
noncomputable def p_all (d : aF) (nA nH nO : Nat) : aF × aF × Int32 := p_run d nA nH (fun _ => 1, fun _ => -1, 0) (ordL d nO)
def iK (f : aF) (v : Int32) (k : Nat) : aF := fun j => if j < k then v else f j
theorem iK_0 (f : aF) (v : Int32) : iK f v 0 = f := by
  funext j
  unfold iK
  rw [if_neg (by omega)]
theorem iK_s (f : aF) (v : Int32) (k : Nat) : upd (iK f v k) k v = iK f v (k + 1) := by
  funext j
  unfold iK upd
  by_cases h : j = k
  · subst h
    rw [if_pos rfl, if_pos (by omega)]
  · rw [if_neg h]
    show (if j < k then v else f j) = _
    by_cases h2 : j < k
    · rw [if_pos h2, if_pos (by omega)]
    · rw [if_neg h2, if_neg (by omega)]
