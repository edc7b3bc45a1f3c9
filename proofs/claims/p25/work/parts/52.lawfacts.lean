/-! THE LAW: what holds between its calls -/
def LI (d : aF) : Prop := d 7 = 1 ∧ iR (d 0) (-699) 699 ∧ iR (d 1) (-699) 699 ∧ ∀ a, a < 5 → iR (dA d a 0 - d 0) 0 179 ∧ iR (dA d a 1 - d 1) 0 119
theorem LI_same {d d' : aF} (I : LI d) (h : ∀ c, c < 50 → d' c = d c) : LI d' := by
  obtain ⟨h7, h0, h1, hA⟩ := I
  refine ⟨by rw [h 7 (by omega)]; exact h7, by rw [h 0 (by omega)]; exact h0, by rw [h 1 (by omega)]; exact h1, fun a ha => ?_⟩
  have e0 : dA d' a 0 = dA d a 0 := h _ (by omega)
  have e1 : dA d' a 1 = dA d a 1 := h _ (by omega)
  rw [e0, e1, h 0 (by omega), h 1 (by omega)]
  exact hA a ha
/-- while the anchors are made -/
def LA (d : aF) (k : Nat) : Prop := d 7 = 1 ∧ d 0 = 0 ∧ d 1 = 0 ∧ ∀ a, a < k → iR (dA d a 0) 0 179 ∧ iR (dA d a 1) 0 119
theorem LA_LI {d : aF} (h : LA d 5) : LI d := by
  obtain ⟨h7, h0, h1, hA⟩ := h
  refine ⟨h7, by rw [h0]; exact ⟨by decide, by decide⟩, by rw [h1]; exact ⟨by decide, by decide⟩, fun a ha => ?_⟩
  rw [h0, h1, Int32.sub_zero, Int32.sub_zero]
  exact hA a ha
theorem LA_same {d d' : aF} {k : Nat} (hk : k ≤ 10) (I : LA d k) (h : ∀ c, c < 50 → d' c = d c) : LA d' k := by
  obtain ⟨h7, h0, h1, hA⟩ := I
  refine ⟨by rw [h 7 (by omega)]; exact h7, by rw [h 0 (by omega)]; exact h0, by rw [h 1 (by omega)]; exact h1, fun a ha => ?_⟩
  have e0 : dA d' a 0 = dA d a 0 := h _ (by omega)
  have e1 : dA d' a 1 = dA d a 1 := h _ (by omega)
  rw [e0, e1]
  exact hA a ha
theorem iR_nI0 {y n : Nat} {hi : Int} (h : y ≤ n) (hn : (n : Int) = hi) (hn2 : n < 2 ^ 31) : iR (nI y) 0 hi := by
  unfold iR
  rw [nI_toInt (by omega)]
  omega
theorem LA_s {d : aF} {k : Nat} {x y w t v : Int32} (hk : k < 10) (I : LA d k) (hx : iR x 0 179) (hy : iR y 0 119) : LA (upd (upd (upd (upd (upd d (10 + k) x) (20 + k) y) (30 + k) w) (40 + k) t) 9 v) (k + 1) := by
  obtain ⟨h7, h0, h1, hA⟩ := I
  have ne : ∀ j, j < 8 → upd (upd (upd (upd (upd d (10 + k) x) (20 + k) y) (30 + k) w) (40 + k) t) 9 v j = d j := fun j hj => by
    rw [upd_ne (by omega), upd_ne (by omega), upd_ne (by omega), upd_ne (by omega), upd_ne (by omega)]
  refine ⟨by rw [ne 7 (by omega)]; exact h7, by rw [ne 0 (by omega)]; exact h0, by rw [ne 1 (by omega)]; exact h1, fun a ha => ?_⟩
  have e0 : dA (upd (upd (upd (upd (upd d (10 + k) x) (20 + k) y) (30 + k) w) (40 + k) t) 9 v) a 0 = upd d (10 + k) x (10 + a) := by
    show upd (upd (upd (upd (upd d (10 + k) x) (20 + k) y) (30 + k) w) (40 + k) t) 9 v (10 + a) = _
    rw [upd_ne (by omega), upd_ne (by omega), upd_ne (by omega), upd_ne (by omega)]
  have e1 : dA (upd (upd (upd (upd (upd d (10 + k) x) (20 + k) y) (30 + k) w) (40 + k) t) 9 v) a 1 = upd (upd d (10 + k) x) (20 + k) y (20 + a) := by
    show upd (upd (upd (upd (upd d (10 + k) x) (20 + k) y) (30 + k) w) (40 + k) t) 9 v (20 + a) = _
    rw [upd_ne (by omega), upd_ne (by omega), upd_ne (by omega)]
  rw [e0, e1]
  by_cases q : a = k
  · subst q
    rw [upd_at, upd_at]
    exact ⟨hx, hy⟩
  · rw [upd_ne (by omega), upd_ne (by omega), upd_ne (by omega)]
    exact hA a (by omega)
/-- the row of a new hint -/
def nh (d : aF) (k : Nat) (v w t s g : Int32) : aF := upd (upd (upd (upd (upd (upd (upd (upd (upd (upd d (51 + k) v) (63 + k) w) (75 + k) t) (87 + k) s) (99 + k) g) (111 + k) 0) (123 + k) 0) (135 + k) 0) (160 + k) (-1)) 50 (nI (k + 1))
theorem nh_facts {d : aF} {k : Nat} {v w t s g : Int32} (hk : k < 12) : dH (nh d k v w t s g) k 5 = 0 ∧ dH (nh d k v w t s g) k 6 = 0 ∧ ∀ c, c < 50 → nh d k v w t s g c = d c := by
  refine ⟨?_, ?_, fun c hc => ?_⟩
  · show nh d k v w t s g (51 + 12 * 5 + k) = 0
    rw [show 51 + 12 * 5 + k = 111 + k by omega]
    unfold nh
    rw [upd_ne (by omega), upd_ne (by omega), upd_ne (by omega), upd_ne (by omega), upd_at]
  · show nh d k v w t s g (51 + 12 * 6 + k) = 0
    rw [show 51 + 12 * 6 + k = 123 + k by omega]
    unfold nh
    rw [upd_ne (by omega), upd_ne (by omega), upd_ne (by omega), upd_at]
  · unfold nh
    rw [upd_ne (by omega), upd_ne (by omega), upd_ne (by omega), upd_ne (by omega), upd_ne (by omega), upd_ne (by omega), upd_ne (by omega), upd_ne (by omega), upd_ne (by omega), upd_ne (by omega)]
/-- the view moved, and the first k anchors -/
def mv (d : aF) (dx dy : Int32) : Nat → aF
  | 0 => upd (upd d 0 (d 0 + dx)) 1 (d 1 + dy)
  | k + 1 => upd (upd (mv d dx dy k) (10 + k) (dA d k 0 + dx)) (20 + k) (dA d k 1 + dy)
theorem mv_ne {d : aF} {dx dy : Int32} : ∀ {k c : Nat}, 2 ≤ c → (c < 10 ∨ 10 + k ≤ c) → (c < 20 ∨ 20 + k ≤ c) → mv d dx dy k c = d c
  | 0, c, h, _, _ => by
    unfold mv
    rw [upd_ne (by omega), upd_ne (by omega)]
  | k + 1, c, h, h1, h2 => by
    unfold mv
    rw [upd_ne (by omega), upd_ne (by omega), mv_ne h (by omega) (by omega)]
theorem mv_01 {d : aF} {dx dy : Int32} : ∀ {k : Nat}, mv d dx dy k 0 = d 0 + dx ∧ mv d dx dy k 1 = d 1 + dy
  | 0 => by
    unfold mv
    exact ⟨by rw [upd_ne (by omega), upd_at], upd_at _ _ _⟩
  | k + 1 => by
    unfold mv
    rw [upd_ne (by omega), upd_ne (by omega), upd_ne (by omega), upd_ne (by omega)]
    exact mv_01
theorem mv_A {d : aF} {dx dy : Int32} : ∀ {k a : Nat}, k ≤ 10 → a < k → dA (mv d dx dy k) a 0 = dA d a 0 + dx ∧ dA (mv d dx dy k) a 1 = dA d a 1 + dy
  | k + 1, a, hk, ha => by
    show mv d dx dy (k + 1) (10 + a) = _ ∧ mv d dx dy (k + 1) (20 + a) = _
    unfold mv
    by_cases q : a = k
    · subst q
      exact ⟨by rw [upd_ne (by omega), upd_at], upd_at _ _ _⟩
    · rw [upd_ne (by omega), upd_ne (by omega), upd_ne (by omega), upd_ne (by omega)]
      exact mv_A (by omega) (by omega)
theorem mv_at {d : aF} {dx dy : Int32} {k : Nat} (hk : k < 10) : dA (mv d dx dy k) k 0 = dA d k 0 ∧ dA (mv d dx dy k) k 1 = dA d k 1 :=
  ⟨mv_ne (c := 10 + 10 * 0 + k) (by omega) (by omega) (by omega), mv_ne (c := 10 + 10 * 1 + k) (by omega) (by omega) (by omega)⟩
theorem mv_tr {d : aF} {dx dy : Int32} : tr d (mv d dx dy 5) 5 dx dy :=
  ⟨mv_01.1, mv_01.2, fun a ha => mv_A (by omega) ha, fun c hc => mv_ne (by omega) (by omega) (by omega)⟩
theorem i_sub (a b c : Int32) : a + c - (b + c) = a - b := by
  obtain ⟨A, rfl⟩ := iZ_ex a
  obtain ⟨B, rfl⟩ := iZ_ex b
  obtain ⟨C, rfl⟩ := iZ_ex c
  simp only [iZ_add, iZ_sub]
  congr 1
  omega
theorem mv_LI {d : aF} {dx dy : Int32} (I : LI d) (h0 : iR (d 0 + dx) (-699) 699) (h1 : iR (d 1 + dy) (-699) 699) : LI (mv d dx dy 5) := by
  obtain ⟨h7, -, -, hA⟩ := I
  refine ⟨by rw [mv_ne (by omega) (by omega) (by omega)]; exact h7, by rw [mv_01.1]; exact h0, by rw [mv_01.2]; exact h1, fun a ha => ?_⟩
  obtain ⟨e0, e1⟩ := mv_A (d := d) (dx := dx) (dy := dy) (k := 5) (by omega) ha
  rw [e0, e1, mv_01.1, mv_01.2, i_sub, i_sub]
  exact hA a ha
theorem rg_R {x lo hi : Int32} {a b a' b' : Int} (h : iR x a b) (ha : lo.toInt = a') (hb : hi.toInt = b') (h1 : a' ≤ a) (h2 : b ≤ b') : q_rg x lo hi := by
  unfold q_rg
  rw [Int32.lt_iff_toInt_lt, Int32.lt_iff_toInt_lt, ha, hb]
  have := h.1
  have := h.2
  omega
/-- where a moved anchor goes to -/
theorem mv_rg {a v t : Int32} (h : iR (a - v) 0 179) (hv : iR (v + t) (-699) 699) : q_rg (a + t) (-1000) 1000 := by
  have e : a + t = (a - v) + (v + t) := by
    obtain ⟨A, rfl⟩ := iZ_ex a
    obtain ⟨V, rfl⟩ := iZ_ex v
    obtain ⟨T, rfl⟩ := iZ_ex t
    simp only [iZ_add, iZ_sub]
    congr 1
    omega
  rw [e]
  exact rg_R (a' := -1000) (b' := 1000) (iR_plus h hv (by omega) (by omega)) (by decide) (by decide) (by omega) (by omega)
theorem near_R {x : Int32} (h1 : ¬ x ≤ -700) (h2 : ¬ 700 ≤ x) : iR x (-699) 699 := by
  rw [Int32.le_iff_toInt_le] at h1 h2
  have e1 : (-700 : Int32).toInt = -700 := by decide
  have e2 : (700 : Int32).toInt = 700 := by decide
  unfold iR
  omega
/-- what the law makes of reasons and sides -/
noncomputable def sm (W on : aF) : Nat → Int32
  | 0 => 0
  | k + 1 => 7 * sm W on k + W k + iif (on k = -1) 0 (on k)
theorem sd_nn {s : Int32} (h : sd s) : 0 ≤ s := by rcases h with rfl | rfl | rfl | rfl <;> decide
theorem ST_pos {h : List mC} {d : aF} {nA nH nO B n : Nat} (S : ST h d nA nH nO B n) : ¬ (p_all d nA nH nO).2.2 < 0 := by
  obtain ⟨hw, hR, hi⟩ := ST_w S
  obtain ⟨-, -, -, -, c, q, f1, f2, f3, f4, f5, f6, f7⟩ := p_facts hw hi hR
  rw [f1]
  exact nI_pos (by omega)
theorem ST_ne {h : List mC} {d : aF} {nA nH nO B n : Nat} (S : ST h d nA nH nO B n) : ¬ (p_all d nA nH nO).2.2 = -10002 := fun z => ST_pos S (by rw [z]; decide)
/-- a reason is a number from 0 to 5 -/
theorem why_R {d : aF} {nA nH nO : Nat} (hw : wD d nA nH nO) (hi : wI d nO) (hR : wR d nA nH) (i : Nat) : ¬ (p_all d nA nH nO).1 i < 0 := by
  obtain ⟨F1, F2, -⟩ := p_facts hw hi hR
  by_cases g : (p_all d nA nH nO).2.1 i = -1
  · rcases F2 i g with e | ⟨e, -⟩ | e | e | ⟨e, -⟩ <;> rw [e] <;> decide
  · rw [(F1 i g).2.1]; decide
theorem ord_new {d : aF} {nO k : Nat} (hk : k < 1000) : k ∈ ordL (upd (upd d (148 + nO) (nI k)) 147 (nI (nO + 1))) (nO + 1) := by
  unfold ordL
  rw [List.mem_reverse]
  refine (ordR_mem _ _ _).mpr ⟨nO, by omega, ?_⟩
  unfold op
  rw [upd_ne (by omega), upd_at, nI_clamp (by omega)]
theorem mN_pos (n : Nat) : ∃ n1, mN n = n1 + 1 := by
  unfold mN
  split
  · exact ⟨4, rfl⟩
  · exact ⟨n, rfl⟩
theorem nI_rgn {y : Nat} (h : y ≤ 1000) : q_rg (nI y) (-1000) 1000 := by
  unfold q_rg
  rw [Int32.lt_iff_toInt_lt, Int32.lt_iff_toInt_lt, nI_toInt (by omega)]
  have e1 : (-1000 : Int32).toInt = -1000 := by decide
  have e2 : (1000 : Int32).toInt = 1000 := by decide
  omega
theorem dl_R {y : Nat} (h : y ≤ 100) : iR (nI y - 50) (-50) 50 := by
  have e : nI y - 50 = iZ ((y : Int) - 50) := by
    have e1 : nI y = iZ (y : Int) := by
      obtain ⟨Y, hY⟩ := iZ_ex (nI y)
      rw [← Int32.ofInt_toInt (nI y), nI_toInt (by omega)]
      rfl
    rw [e1, show (50 : Int32) = iZ 50 from rfl, iZ_sub]
  rw [e]
  exact iR_Z (by omega) (by omega) (by omega) (by omega)
