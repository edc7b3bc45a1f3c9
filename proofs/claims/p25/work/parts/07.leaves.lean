/-! NUMBERS FOR TRUTH, ROWS, THE TWO HEAPS; the leaves of the class -/
noncomputable def b2i (p : Prop) : Int32 := @ite Int32 p (Classical.propDecidable p) 1 0
theorem b2i_t {p : Prop} (h : p) : b2i p = 1 := by unfold b2i; exact if_pos h
theorem b2i_f {p : Prop} (h : ¬ p) : b2i p = 0 := by unfold b2i; exact if_neg h
theorem b2i_01 (p : Prop) : b2i p = 0 ∨ b2i p = 1 := by
  by_cases h : p
  · exact Or.inr (b2i_t h)
  · exact Or.inl (b2i_f h)
theorem b2i_eq {p q : Prop} (h : p ↔ q) : b2i p = b2i q := by rw [propext h]
theorem b2i_1 {p : Prop} : b2i p = 1 ↔ p := by
  constructor
  · intro e
    by_cases h : p
    · exact h
    · rw [b2i_f h] at e; exact absurd e (by decide)
  · exact b2i_t
theorem b2i_0 {p : Prop} : b2i p = 0 ↔ ¬ p := by
  constructor
  · intro e h
    rw [b2i_t h] at e; exact absurd e (by decide)
  · exact b2i_f
noncomputable def iif {α : Type} (p : Prop) (a b : α) : α := @ite α p (Classical.propDecidable p) a b
theorem iif_t {α : Type} {p : Prop} {a b : α} (h : p) : iif p a b = a := by unfold iif; exact if_pos h
theorem iif_f {α : Type} {p : Prop} {a b : α} (h : ¬ p) : iif p a b = b := by unfold iif; exact if_neg h
/-- an answer of truth at a path's end -/
theorem z_t {p : Prop} (h : p) : (some (Value.int (b2i p))) = some (.int 1) := by rw [b2i_t h]
theorem z_f {p : Prop} (h : ¬ p) : (some (Value.int (b2i p))) = some (.int 0) := by rw [b2i_f h]
theorem m_all {av : List Value} (h : av.all (fun v => v.category == 1) = true) : ∀ v ∈ av, v.category = 1 := fun v hv => by simpa using List.all_eq_true.mp h v hv
theorem m_out {x : Int32} {lo hi : Int} (h : ∀ z : Int, lo ≤ z → z ≤ hi → x.toInt = z → False) : x.toInt < lo ∨ hi < x.toInt := by
  by_cases h1 : x.toInt < lo
  · exact Or.inl h1
  · by_cases h2 : hi < x.toInt
    · exact Or.inr h2
    · exact (h x.toInt (by omega) (by omega) rfl).elim
section MR2
variable {M : mM} {pc : Nat} {ls st : List Value} {h h' : List mC} {r : Option Value}
theorem mJ_b2i {p : Prop} (kt : p → mJ M pc ls (.int 1 :: st) h r h') (kf : ¬ p → mJ M pc ls (.int 0 :: st) h r h') : mJ M pc ls (.int (b2i p) :: st) h r h' := by
  by_cases q : p
  · rw [b2i_t q]; exact kt q
  · rw [b2i_f q]; exact kf q
theorem mJ_case {x : Int32} (v : Int32) (kt : x = v → mJ M pc ls (.int v :: st) h r h') (kf : ¬ x = v → mJ M pc ls (.int x :: st) h r h') : mJ M pc ls (.int x :: st) h r h' := by
  by_cases q : x = v
  · rw [q]; exact kt q
  · exact kf q
/-- the value on top under another name -/
theorem mJ_top {x y : Int32} (e : x = y) (k : mJ M pc ls (.int y :: st) h r h') : mJ M pc ls (.int x :: st) h r h' := e ▸ k
theorem mJ_ialdN {a n j : Nat} {f : Nat → Int32} {i : Int32} (hd : decode M.2.1 pc = .ok (.iaload, 1)) (hc : h[a]? = some (.inl (0, n, f))) (hi : i = nI j ∧ j < n ∧ n < 2 ^ 31) (kk : mJ M (pc + 1) ls (.int (f j) :: st) h r h') : mJ M pc ls (.int i :: .ref a :: st) h r h' := by
  obtain ⟨rfl, h1, h2⟩ := hi
  exact mJ_iald hd hc (vp_in_nI h1 h2) (by rw [nI_clamp (by omega)]) kk
theorem mJ_iastN {a n j : Nat} {f : Nat → Int32} {i x : Int32} (hd : decode M.2.1 pc = .ok (.iastore, 1)) (hc : h[a]? = some (.inl (0, n, f))) (hi : i = nI j ∧ j < n ∧ n < 2 ^ 31) {h2 : List mC} (hs : h.set a (.inl (0, n, upd f j x)) = h2) (kk : mJ M (pc + 1) ls st h2 r h') : mJ M pc ls (.int x :: .int i :: .ref a :: st) h r h' := by
  obtain ⟨rfl, h1, h3⟩ := hi
  exact mJ_iast hd hc (vp_in_nI h1 h3) (by rw [nI_clamp (by omega)]; exact hs) kk
end MR2
/-- a row's get and put: beyond its ends 0 and nothing -/
def rg (n : Nat) (f : Nat → Int32) (i : Int32) : Int32 := if i < 0 then 0 else if nI n ≤ i then 0 else f i.toNatClampNeg
def rp (n : Nat) (f : Nat → Int32) (i v : Int32) : Nat → Int32 := if i < 0 then f else if nI n ≤ i then f else upd f i.toNatClampNeg v
theorem m_vpin {i : Int32} {n : Nat} (h1 : ¬ i < 0) (h2 : ¬ nI n ≤ i) (hn : n < 2 ^ 31) : vp_in i n := by
  obtain ⟨j, hj, rfl⟩ := nI_of h1
  have : j < n := by
    rcases Nat.lt_or_ge j n with q | q
    · exact q
    · exact absurd (nI_le q hj) h2
  exact vp_in_nI this hn
theorem rg_in {n j : Nat} (f : Nat → Int32) (hj : j < n) (hn : n < 2 ^ 31) : rg n f (nI j) = f j := by
  unfold rg
  rw [if_neg (nI_pos (by omega)), if_neg (nI_ge hj hn), nI_clamp (by omega)]
theorem rp_in {n j : Nat} (f : Nat → Int32) (v : Int32) (hj : j < n) (hn : n < 2 ^ 31) : rp n f (nI j) v = upd f j v := by
  unfold rp
  rw [if_neg (nI_pos (by omega)), if_neg (nI_ge hj hn), nI_clamp (by omega)]
theorem m_set_same {h : List mC} {a : Nat} {c : mC} (hc : h[a]? = some c) : h.set a c = h := by
  apply List.ext_getElem?
  intro i
  rw [List.getElem?_set]
  by_cases q : a = i
  · subst q
    obtain ⟨h1, hx⟩ := List.getElem?_eq_some_iff.mp hc
    simp [h1, hx]
  · simp [q]
abbrev aF : Type := Nat → Int32
abbrev tH : Type := aF × Int32 × Int32
abbrev tS : Type := aF × aF × aF × aF × aF × Int32
abbrev tT : Type := aF × Int32
abbrev tP : Type := Int32 × Int32 × Int32 × Int32 × Int32 × Int32
abbrev tO : Type := aF × Int32 × Int32 × Int32 × Int32 × Int32 × Int32 × Int32
/-- the class's cells: state row, history, showing, its tries and place, orders, tries and place -/
def cH (C : aF) (Hs : tH) (Sw : tS) (T1 : tT) (P1 : tP) (Od : tO) (T2 : tT) (P2 : tP) : List mC :=
  [.inr (7, [.ref 1, .ref 4, .ref 7, .ref 22, .ref 25, .ref 28]), .inr (5, [.ref 2]), .inr (3, [.ref 3]), .inl (0, 172, C),
   .inr (0, [.ref 5, .int Hs.2.1, .int Hs.2.2]), .inr (3, [.ref 6]), .inl (0, 860, Hs.1),
   .inr (4, [.ref 8, .ref 10, .ref 12, .ref 14, .ref 16, .ref 18, .ref 21, .int Sw.2.2.2.2.2]), .inr (3, [.ref 9]), .inl (0, 12, Sw.1), .inr (3, [.ref 11]), .inl (0, 12, Sw.2.1), .inr (3, [.ref 13]), .inl (0, 12, Sw.2.2.1), .inr (3, [.ref 15]), .inl (0, 12, Sw.2.2.2.1), .inr (3, [.ref 17]), .inl (0, 12, Sw.2.2.2.2.1),
   .inr (6, [.ref 19, .int T1.2]), .inr (3, [.ref 20]), .inl (0, 4, T1.1),
   .inr (2, [.int P1.1, .int P1.2.1, .int P1.2.2.1, .int P1.2.2.2.1, .int P1.2.2.2.2.1, .int P1.2.2.2.2.2]),
   .inr (1, [.ref 23, .int Od.2.1, .int Od.2.2.1, .int Od.2.2.2.1, .int Od.2.2.2.2.1, .int Od.2.2.2.2.2.1, .int Od.2.2.2.2.2.2.1, .int Od.2.2.2.2.2.2.2]), .inr (3, [.ref 24]), .inl (0, 60, Od.1),
   .inr (6, [.ref 26, .int T2.2]), .inr (3, [.ref 27]), .inl (0, 4, T2.1),
   .inr (2, [.int P2.1, .int P2.2.1, .int P2.2.2.1, .int P2.2.2.2.1, .int P2.2.2.2.2.1, .int P2.2.2.2.2.2])]

set_option maxHeartbeats 4000000 in
set_option maxRecDepth 100000 in
theorem C_X3_get {h : List mC} {id a n : Nat} {f : aF} {i : Int32} (hid : h[id]? = some (.inr (3, [.ref a]))) (ha : h[a]? = some (.inl (0, n, f))) (hn : n < 2 ^ 31) : mCt k_X3_get [.ref id, .int i] h (some (.int (rg n f i))) h := by
  refine mCt_intro (plainFor_of_name rfl) (Nat.le_of_ble_eq_true rfl) (m_all rfl) (ls := [_, _]) rfl ?_
  refine mJ_iload_n dX3_get_0 rfl ?_
  refine mJ_if_lt 22 dX3_get_1 rfl (fun c_1 => ?_) (fun c_1 => ?_)
  · refine mJ_iconst (v := 0) dX3_get_22 rfl ?_
    exact mJ_iret dX3_get_23 rfl (by simp [rg, *]) (rfl)
  · refine mJ_iload_n dX3_get_4 rfl ?_
    refine mJ_aload_n dX3_get_5 rfl ?_
    refine mJ_get dX3_get_6 f_X3_13 hid rfl ?_
    refine mJ_alen dX3_get_9 ha (Nat.le_of_ble_eq_true rfl) (v := nI _) rfl ?_
    refine mJ_icmp_ge 22 dX3_get_10 rfl (fun c_10 => ?_) (fun c_10 => ?_)
    · refine mJ_iconst (v := 0) dX3_get_22 rfl ?_
      exact mJ_iret dX3_get_23 rfl (by simp [rg, *]) (rfl)
    · refine mJ_aload_n dX3_get_13 rfl ?_
      refine mJ_get dX3_get_14 f_X3_13 hid rfl ?_
      refine mJ_iload_n dX3_get_17 rfl ?_
      refine mJ_iald dX3_get_18 ha (m_vpin c_1 c_10 hn) rfl ?_
      refine mJ_goto 23 dX3_get_19 rfl ?_
      exact mJ_iret dX3_get_23 rfl (by simp [rg, *]) (rfl)
set_option maxHeartbeats 4000000 in
set_option maxRecDepth 100000 in
theorem C_X3_put {h : List mC} {id a n : Nat} {f : aF} {i : Int32} (hid : h[id]? = some (.inr (3, [.ref a]))) (ha : h[a]? = some (.inl (0, n, f))) (hn : n < 2 ^ 31) {v : Int32} : mCt k_X3_put [.ref id, .int i, .int v] h none (h.set a (.inl (0, n, rp n f i v))) := by
  refine mCt_intro (plainFor_of_name rfl) (Nat.le_of_ble_eq_true rfl) (m_all rfl) (ls := [_, _, _]) rfl ?_
  refine mJ_iload_n dX3_put_0 rfl ?_
  refine mJ_if_lt 20 dX3_put_1 rfl (fun c_1 => ?_) (fun c_1 => ?_)
  · exact mJ_vret dX3_put_20 rfl (rfl) (by first | (simp [rp, *]; exact (m_set_same ha).symm) | simp [rp, *])
  · refine mJ_iload_n dX3_put_4 rfl ?_
    refine mJ_aload_n dX3_put_5 rfl ?_
    refine mJ_get dX3_put_6 f_X3_13 hid rfl ?_
    refine mJ_alen dX3_put_9 ha (Nat.le_of_ble_eq_true rfl) (v := nI _) rfl ?_
    refine mJ_icmp_ge 20 dX3_put_10 rfl (fun c_10 => ?_) (fun c_10 => ?_)
    · exact mJ_vret dX3_put_20 rfl (rfl) (by first | (simp [rp, *]; exact (m_set_same ha).symm) | simp [rp, *])
    · refine mJ_aload_n dX3_put_13 rfl ?_
      refine mJ_get dX3_put_14 f_X3_13 hid rfl ?_
      refine mJ_iload_n dX3_put_17 rfl ?_
      refine mJ_iload_n dX3_put_18 rfl ?_
      refine mJ_iast dX3_put_19 ha (m_vpin c_1 c_10 hn) (h2 := _) rfl ?_
      exact mJ_vret dX3_put_20 rfl (rfl) (by first | (simp [rp, *]; exact (m_set_same ha).symm) | simp [rp, *])
/-! what the state row holds: a cell, a setting, an anchor's, a hint's value -/
def gG (C : aF) (i : Int32) : Int32 := rg 172 C i
def gS (C : aF) (w : Int32) : Int32 := rg 172 C (7 + w)
def gA (C : aF) (a w : Int32) : Int32 := rg 172 C (12 + a * 4 + w)
def gH (C : aF) (h w : Int32) : Int32 := rg 172 C (52 + h * 10 + w)
def sP (C : aF) (i v : Int32) : aF := rp 172 C i v
def sA (C : aF) (a w v : Int32) : aF := rp 172 C (12 + a * 4 + w) v
def sH (C : aF) (h w v : Int32) : aF := rp 172 C (52 + h * 10 + w) v
/-- truths of the class -/
def q_in (v f : Int32) : Prop := ¬ v < -f ∧ ¬ f < v
def q_size (v : Int32) : Prop := ¬ v < 1 ∧ ¬ 200 < v
def q_view (v : Int32) : Prop := ¬ v < 20 ∧ ¬ 400 < v
def q_side (v : Int32) : Prop := ¬ v < 0 ∧ ¬ 4 ≤ v
def q_lv (v : Int32) : Prop := v = 0 ∨ v = 2
def q_bf (v : Int32) : Prop := v = 0 ∨ v = 3
def q_sm (b l ob ol : Int32) : Prop := ¬ ob + ol ≤ b ∧ ¬ b + l ≤ ob
def q_sl (b l ob ol : Int32) : Prop := ¬ b < ob ∧ ¬ ob + ol < b + l
def q_gd (a l m : Int32) : Prop := ¬ a < m ∧ ¬ l - 1 - m < a
def q_dig (v : Int32) : Prop := ¬ v < 48 ∧ ¬ 57 < v
def q_anchor (C : aF) (v : Int32) : Prop := ¬ v < 0 ∧ ¬ gG C 4 ≤ v
def q_hint (C : aF) (v : Int32) : Prop := ¬ v < 0 ∧ ¬ gG C 5 ≤ v
def q_open (C : aF) (h : Int32) : Prop := ¬ gH C h 8 = 0
def q_am (C : aF) (a x y w h : Int32) : Prop := q_sm (gA C a 0) (gA C a 2) x w ∧ q_sm (gA C a 1) (gA C a 3) y h
def q_as (C : aF) (a : Int32) : Prop := q_am C a (gG C 0) (gG C 1) (gG C 2) (gG C 3)
def q_gb (C : aF) (h o : Int32) : Prop := (¬ gH C h 7 = gH C o 7 ∧ ¬ gH C h 7 ≤ gH C o 7) ∨ (gH C h 7 = gH C o 7 ∧ ¬ gH C o 8 ≤ gH C h 8)
def q_cm (C : aF) (x y : Int32) : Prop := q_in (gG C 0 + x) 2000 ∧ q_in (gG C 1 + y) 2000
def v_fd (x y : Int32) : Int32 := if 0 ≤ x ^^^ y then x / y else if x / y * y = x then x / y else x / y - 1
def v_max (x y : Int32) : Int32 := if x < y then y else x
def v_min (x y : Int32) : Int32 := if y < x then y else x
def v_beg (C : aF) (h x w hw : Int32) : Int32 := if gH C h 4 = 0 then gA C (gH C h 0) x else if gH C h 4 = 1 then gA C (gH C h 0) x + v_fd (gA C (gH C h 0) w - gH C h hw) 2 else gA C (gH C h 0) x + (gA C (gH C h 0) w - gH C h hw)
def v_mid (C : aF) (h x w : Int32) : Int32 := gA C (gH C h 0) x + v_fd (gA C (gH C h 0) w) 2
noncomputable def v_shi (vb vl b l a m : Int32) : Int32 := if ¬ l ≤ vl then 0 else iif (q_gd a l m) (v_min (v_max 0 (vb - b)) (a - m) - v_min (v_max 0 (b + l - vb - vl)) (l - 1 - m - a)) (v_max 0 (vb - b) - v_max 0 (b + l - vb - vl))
noncomputable def v_edge (C : aF) (a s : Int32) : Int32 := iif (q_bf s) (gA C a (iif (q_lv s) 1 0) - gS C 0) (gA C a (iif (q_lv s) 1 0) + gA C a (iif (q_lv s) 3 2) + gS C 0)
def v_hs (w : Int32) : Int32 := if w = 0 then 30 else if w = 1 then 20 else if w = 2 then 6 else 1
def v_lv (w : Int32) : Int32 := if w = 1 then 1 else if w = 2 then 1 else 0
def v_hv (C : aF) (w : Int32) : Int32 := if w = 0 then gG C 4 - 1 else if w = 1 then 200 else if w = 2 then 200 else if w = 3 then 3 else if w = 4 then 2 else if w = 5 then 2 else if w = 6 then 1 else 9
theorem C_put_3 {C : aF} {Hs : tH} {Sw : tS} {T1 : tT} {P1 : tP} {Od : tO} {T2 : tT} {P2 : tP} {i v : Int32} : mCt k_X3_put [.ref 2, .int i, .int v] (cH C Hs Sw T1 P1 Od T2 P2) none (cH (rp 172 C i v) Hs Sw T1 P1 Od T2 P2) := C_X3_put (h := (cH C Hs Sw T1 P1 Od T2 P2)) (id := 2) (a := 3) rfl rfl (Nat.le_of_ble_eq_true rfl)
theorem C_put_6 {C : aF} {Hs : tH} {Sw : tS} {T1 : tT} {P1 : tP} {Od : tO} {T2 : tT} {P2 : tP} {i v : Int32} : mCt k_X3_put [.ref 5, .int i, .int v] (cH C Hs Sw T1 P1 Od T2 P2) none (cH C (rp 860 Hs.1 i v, Hs.2) Sw T1 P1 Od T2 P2) := C_X3_put (h := (cH C Hs Sw T1 P1 Od T2 P2)) (id := 5) (a := 6) rfl rfl (Nat.le_of_ble_eq_true rfl)
theorem C_put_9 {C : aF} {Hs : tH} {Sw : tS} {T1 : tT} {P1 : tP} {Od : tO} {T2 : tT} {P2 : tP} {i v : Int32} : mCt k_X3_put [.ref 8, .int i, .int v] (cH C Hs Sw T1 P1 Od T2 P2) none (cH C Hs (rp 12 Sw.1 i v, Sw.2) T1 P1 Od T2 P2) := C_X3_put (h := (cH C Hs Sw T1 P1 Od T2 P2)) (id := 8) (a := 9) rfl rfl (Nat.le_of_ble_eq_true rfl)
theorem C_put_11 {C : aF} {Hs : tH} {Sw : tS} {T1 : tT} {P1 : tP} {Od : tO} {T2 : tT} {P2 : tP} {i v : Int32} : mCt k_X3_put [.ref 10, .int i, .int v] (cH C Hs Sw T1 P1 Od T2 P2) none (cH C Hs (Sw.1, rp 12 Sw.2.1 i v, Sw.2.2) T1 P1 Od T2 P2) := C_X3_put (h := (cH C Hs Sw T1 P1 Od T2 P2)) (id := 10) (a := 11) rfl rfl (Nat.le_of_ble_eq_true rfl)
theorem C_put_13 {C : aF} {Hs : tH} {Sw : tS} {T1 : tT} {P1 : tP} {Od : tO} {T2 : tT} {P2 : tP} {i v : Int32} : mCt k_X3_put [.ref 12, .int i, .int v] (cH C Hs Sw T1 P1 Od T2 P2) none (cH C Hs (Sw.1, Sw.2.1, rp 12 Sw.2.2.1 i v, Sw.2.2.2) T1 P1 Od T2 P2) := C_X3_put (h := (cH C Hs Sw T1 P1 Od T2 P2)) (id := 12) (a := 13) rfl rfl (Nat.le_of_ble_eq_true rfl)
theorem C_put_15 {C : aF} {Hs : tH} {Sw : tS} {T1 : tT} {P1 : tP} {Od : tO} {T2 : tT} {P2 : tP} {i v : Int32} : mCt k_X3_put [.ref 14, .int i, .int v] (cH C Hs Sw T1 P1 Od T2 P2) none (cH C Hs (Sw.1, Sw.2.1, Sw.2.2.1, rp 12 Sw.2.2.2.1 i v, Sw.2.2.2.2) T1 P1 Od T2 P2) := C_X3_put (h := (cH C Hs Sw T1 P1 Od T2 P2)) (id := 14) (a := 15) rfl rfl (Nat.le_of_ble_eq_true rfl)
theorem C_put_17 {C : aF} {Hs : tH} {Sw : tS} {T1 : tT} {P1 : tP} {Od : tO} {T2 : tT} {P2 : tP} {i v : Int32} : mCt k_X3_put [.ref 16, .int i, .int v] (cH C Hs Sw T1 P1 Od T2 P2) none (cH C Hs (Sw.1, Sw.2.1, Sw.2.2.1, Sw.2.2.2.1, rp 12 Sw.2.2.2.2.1 i v, Sw.2.2.2.2.2) T1 P1 Od T2 P2) := C_X3_put (h := (cH C Hs Sw T1 P1 Od T2 P2)) (id := 16) (a := 17) rfl rfl (Nat.le_of_ble_eq_true rfl)
theorem C_put_20 {C : aF} {Hs : tH} {Sw : tS} {T1 : tT} {P1 : tP} {Od : tO} {T2 : tT} {P2 : tP} {i v : Int32} : mCt k_X3_put [.ref 19, .int i, .int v] (cH C Hs Sw T1 P1 Od T2 P2) none (cH C Hs Sw (rp 4 T1.1 i v, T1.2) P1 Od T2 P2) := C_X3_put (h := (cH C Hs Sw T1 P1 Od T2 P2)) (id := 19) (a := 20) rfl rfl (Nat.le_of_ble_eq_true rfl)
theorem C_put_24 {C : aF} {Hs : tH} {Sw : tS} {T1 : tT} {P1 : tP} {Od : tO} {T2 : tT} {P2 : tP} {i v : Int32} : mCt k_X3_put [.ref 23, .int i, .int v] (cH C Hs Sw T1 P1 Od T2 P2) none (cH C Hs Sw T1 P1 (rp 60 Od.1 i v, Od.2) T2 P2) := C_X3_put (h := (cH C Hs Sw T1 P1 Od T2 P2)) (id := 23) (a := 24) rfl rfl (Nat.le_of_ble_eq_true rfl)
theorem C_put_27 {C : aF} {Hs : tH} {Sw : tS} {T1 : tT} {P1 : tP} {Od : tO} {T2 : tT} {P2 : tP} {i v : Int32} : mCt k_X3_put [.ref 26, .int i, .int v] (cH C Hs Sw T1 P1 Od T2 P2) none (cH C Hs Sw T1 P1 Od (rp 4 T2.1 i v, T2.2) P2) := C_X3_put (h := (cH C Hs Sw T1 P1 Od T2 P2)) (id := 26) (a := 27) rfl rfl (Nat.le_of_ble_eq_true rfl)
set_option maxHeartbeats 4000000 in
set_option maxRecDepth 100000 in
theorem C_X7_isWithin {C : aF} {Hs : tH} {Sw : tS} {T1 : tT} {P1 : tP} {Od : tO} {T2 : tT} {P2 : tP} {f v : Int32} : mCt k_X7_isWithin [.int v, .int f] (cH C Hs Sw T1 P1 Od T2 P2) (some (.int (b2i (q_in v f)))) (cH C Hs Sw T1 P1 Od T2 P2) := by
  refine mCt_intro (plainFor_of_name rfl) (Nat.le_of_ble_eq_true rfl) (m_all rfl) (ls := [_, _]) rfl ?_
  refine mJ_iload_n dX7_isWithin_0 rfl ?_
  refine mJ_iload_n dX7_isWithin_1 rfl ?_
  refine mJ_ineg dX7_isWithin_2 ?_
  refine mJ_icmp_lt 15 dX7_isWithin_3 rfl (fun c_3 => ?_) (fun c_3 => ?_)
  · refine mJ_iconst (v := 0) dX7_isWithin_15 rfl ?_
    exact mJ_zret dX7_isWithin_16 rfl (Or.inl rfl) (by first | exact z_t (by simp_all [q_in]) | exact z_f (by simp_all [q_in])) (rfl)
  · refine mJ_iload_n dX7_isWithin_6 rfl ?_
    refine mJ_iload_n dX7_isWithin_7 rfl ?_
    refine mJ_icmp_gt 15 dX7_isWithin_8 rfl (fun c_8 => ?_) (fun c_8 => ?_)
    · refine mJ_iconst (v := 0) dX7_isWithin_15 rfl ?_
      exact mJ_zret dX7_isWithin_16 rfl (Or.inl rfl) (by first | exact z_t (by simp_all [q_in]) | exact z_f (by simp_all [q_in])) (rfl)
    · refine mJ_iconst (v := 1) dX7_isWithin_11 rfl ?_
      refine mJ_goto 16 dX7_isWithin_12 rfl ?_
      exact mJ_zret dX7_isWithin_16 rfl (Or.inr rfl) (by first | exact z_t (by simp_all [q_in]) | exact z_f (by simp_all [q_in])) (rfl)
set_option maxHeartbeats 4000000 in
set_option maxRecDepth 100000 in
theorem C_X7_isSize {C : aF} {Hs : tH} {Sw : tS} {T1 : tT} {P1 : tP} {Od : tO} {T2 : tT} {P2 : tP} {v : Int32} : mCt k_X7_isSize [.int v] (cH C Hs Sw T1 P1 Od T2 P2) (some (.int (b2i (q_size v)))) (cH C Hs Sw T1 P1 Od T2 P2) := by
  refine mCt_intro (plainFor_of_name rfl) (Nat.le_of_ble_eq_true rfl) (m_all rfl) (ls := [_]) rfl ?_
  refine mJ_iload_n dX7_isSize_0 rfl ?_
  refine mJ_iconst (v := 1) dX7_isSize_1 rfl ?_
  refine mJ_icmp_lt 16 dX7_isSize_2 rfl (fun c_2 => ?_) (fun c_2 => ?_)
  · refine mJ_iconst (v := 0) dX7_isSize_16 rfl ?_
    exact mJ_zret dX7_isSize_17 rfl (Or.inl rfl) (by first | exact z_t (by simp_all [q_size]) | exact z_f (by simp_all [q_size])) (rfl)
  · refine mJ_iload_n dX7_isSize_5 rfl ?_
    refine mJ_sipush (v := 200) dX7_isSize_6 rfl ?_
    refine mJ_icmp_gt 16 dX7_isSize_9 rfl (fun c_9 => ?_) (fun c_9 => ?_)
    · refine mJ_iconst (v := 0) dX7_isSize_16 rfl ?_
      exact mJ_zret dX7_isSize_17 rfl (Or.inl rfl) (by first | exact z_t (by simp_all [q_size]) | exact z_f (by simp_all [q_size])) (rfl)
    · refine mJ_iconst (v := 1) dX7_isSize_12 rfl ?_
      refine mJ_goto 17 dX7_isSize_13 rfl ?_
      exact mJ_zret dX7_isSize_17 rfl (Or.inr rfl) (by first | exact z_t (by simp_all [q_size]) | exact z_f (by simp_all [q_size])) (rfl)
set_option maxHeartbeats 4000000 in
set_option maxRecDepth 100000 in
theorem C_X7_isViewSize {C : aF} {Hs : tH} {Sw : tS} {T1 : tT} {P1 : tP} {Od : tO} {T2 : tT} {P2 : tP} {v : Int32} : mCt k_X7_isViewSize [.int v] (cH C Hs Sw T1 P1 Od T2 P2) (some (.int (b2i (q_view v)))) (cH C Hs Sw T1 P1 Od T2 P2) := by
  refine mCt_intro (plainFor_of_name rfl) (Nat.le_of_ble_eq_true rfl) (m_all rfl) (ls := [_]) rfl ?_
  refine mJ_iload_n dX7_isViewSize_0 rfl ?_
  refine mJ_bipush (v := 20) dX7_isViewSize_1 rfl ?_
  refine mJ_icmp_lt 17 dX7_isViewSize_3 rfl (fun c_3 => ?_) (fun c_3 => ?_)
  · refine mJ_iconst (v := 0) dX7_isViewSize_17 rfl ?_
    exact mJ_zret dX7_isViewSize_18 rfl (Or.inl rfl) (by first | exact z_t (by simp_all [q_view]) | exact z_f (by simp_all [q_view])) (rfl)
  · refine mJ_iload_n dX7_isViewSize_6 rfl ?_
    refine mJ_sipush (v := 400) dX7_isViewSize_7 rfl ?_
    refine mJ_icmp_gt 17 dX7_isViewSize_10 rfl (fun c_10 => ?_) (fun c_10 => ?_)
    · refine mJ_iconst (v := 0) dX7_isViewSize_17 rfl ?_
      exact mJ_zret dX7_isViewSize_18 rfl (Or.inl rfl) (by first | exact z_t (by simp_all [q_view]) | exact z_f (by simp_all [q_view])) (rfl)
    · refine mJ_iconst (v := 1) dX7_isViewSize_13 rfl ?_
      refine mJ_goto 18 dX7_isViewSize_14 rfl ?_
      exact mJ_zret dX7_isViewSize_18 rfl (Or.inr rfl) (by first | exact z_t (by simp_all [q_view]) | exact z_f (by simp_all [q_view])) (rfl)
set_option maxHeartbeats 4000000 in
set_option maxRecDepth 100000 in
theorem C_X7_isSide {C : aF} {Hs : tH} {Sw : tS} {T1 : tT} {P1 : tP} {Od : tO} {T2 : tT} {P2 : tP} {v : Int32} : mCt k_X7_isSide [.int v] (cH C Hs Sw T1 P1 Od T2 P2) (some (.int (b2i (q_side v)))) (cH C Hs Sw T1 P1 Od T2 P2) := by
  refine mCt_intro (plainFor_of_name rfl) (Nat.le_of_ble_eq_true rfl) (m_all rfl) (ls := [_]) rfl ?_
  refine mJ_iload_n dX7_isSide_0 rfl ?_
  refine mJ_if_lt 13 dX7_isSide_1 rfl (fun c_1 => ?_) (fun c_1 => ?_)
  · refine mJ_iconst (v := 0) dX7_isSide_13 rfl ?_
    exact mJ_zret dX7_isSide_14 rfl (Or.inl rfl) (by first | exact z_t (by simp_all [q_side]) | exact z_f (by simp_all [q_side])) (rfl)
  · refine mJ_iload_n dX7_isSide_4 rfl ?_
    refine mJ_iconst (v := 4) dX7_isSide_5 rfl ?_
    refine mJ_icmp_ge 13 dX7_isSide_6 rfl (fun c_6 => ?_) (fun c_6 => ?_)
    · refine mJ_iconst (v := 0) dX7_isSide_13 rfl ?_
      exact mJ_zret dX7_isSide_14 rfl (Or.inl rfl) (by first | exact z_t (by simp_all [q_side]) | exact z_f (by simp_all [q_side])) (rfl)
    · refine mJ_iconst (v := 1) dX7_isSide_9 rfl ?_
      refine mJ_goto 14 dX7_isSide_10 rfl ?_
      exact mJ_zret dX7_isSide_14 rfl (Or.inr rfl) (by first | exact z_t (by simp_all [q_side]) | exact z_f (by simp_all [q_side])) (rfl)
set_option maxHeartbeats 4000000 in
set_option maxRecDepth 100000 in
theorem C_X7_isLevel {C : aF} {Hs : tH} {Sw : tS} {T1 : tT} {P1 : tP} {Od : tO} {T2 : tT} {P2 : tP} {v : Int32} : mCt k_X7_isLevel [.int v] (cH C Hs Sw T1 P1 Od T2 P2) (some (.int (b2i (q_lv v)))) (cH C Hs Sw T1 P1 Od T2 P2) := by
  refine mCt_intro (plainFor_of_name rfl) (Nat.le_of_ble_eq_true rfl) (m_all rfl) (ls := [_]) rfl ?_
  refine mJ_iload_n dX7_isLevel_0 rfl ?_
  refine mJ_if_eq 9 dX7_isLevel_1 rfl (fun c_1 => ?_) (fun c_1 => ?_)
  · refine mJ_iconst (v := 1) dX7_isLevel_9 rfl ?_
    refine mJ_goto 14 dX7_isLevel_10 rfl ?_
    exact mJ_zret dX7_isLevel_14 rfl (Or.inr rfl) (by first | exact z_t (by simp_all [q_lv]) | exact z_f (by simp_all [q_lv])) (rfl)
  · refine mJ_iload_n dX7_isLevel_4 rfl ?_
    refine mJ_iconst (v := 2) dX7_isLevel_5 rfl ?_
    refine mJ_icmp_ne 13 dX7_isLevel_6 rfl (fun c_6 => ?_) (fun c_6 => ?_)
    · refine mJ_iconst (v := 0) dX7_isLevel_13 rfl ?_
      exact mJ_zret dX7_isLevel_14 rfl (Or.inl rfl) (by first | exact z_t (by simp_all [q_lv]) | exact z_f (by simp_all [q_lv])) (rfl)
    · refine mJ_iconst (v := 1) dX7_isLevel_9 rfl ?_
      refine mJ_goto 14 dX7_isLevel_10 rfl ?_
      exact mJ_zret dX7_isLevel_14 rfl (Or.inr rfl) (by first | exact z_t (by simp_all [q_lv]) | exact z_f (by simp_all [q_lv])) (rfl)
set_option maxHeartbeats 4000000 in
set_option maxRecDepth 100000 in
theorem C_X7_isBefore {C : aF} {Hs : tH} {Sw : tS} {T1 : tT} {P1 : tP} {Od : tO} {T2 : tT} {P2 : tP} {v : Int32} : mCt k_X7_isBefore [.int v] (cH C Hs Sw T1 P1 Od T2 P2) (some (.int (b2i (q_bf v)))) (cH C Hs Sw T1 P1 Od T2 P2) := by
  refine mCt_intro (plainFor_of_name rfl) (Nat.le_of_ble_eq_true rfl) (m_all rfl) (ls := [_]) rfl ?_
  refine mJ_iload_n dX7_isBefore_0 rfl ?_
  refine mJ_if_eq 9 dX7_isBefore_1 rfl (fun c_1 => ?_) (fun c_1 => ?_)
  · refine mJ_iconst (v := 1) dX7_isBefore_9 rfl ?_
    refine mJ_goto 14 dX7_isBefore_10 rfl ?_
    exact mJ_zret dX7_isBefore_14 rfl (Or.inr rfl) (by first | exact z_t (by simp_all [q_bf]) | exact z_f (by simp_all [q_bf])) (rfl)
  · refine mJ_iload_n dX7_isBefore_4 rfl ?_
    refine mJ_iconst (v := 3) dX7_isBefore_5 rfl ?_
    refine mJ_icmp_ne 13 dX7_isBefore_6 rfl (fun c_6 => ?_) (fun c_6 => ?_)
    · refine mJ_iconst (v := 0) dX7_isBefore_13 rfl ?_
      exact mJ_zret dX7_isBefore_14 rfl (Or.inl rfl) (by first | exact z_t (by simp_all [q_bf]) | exact z_f (by simp_all [q_bf])) (rfl)
    · refine mJ_iconst (v := 1) dX7_isBefore_9 rfl ?_
      refine mJ_goto 14 dX7_isBefore_10 rfl ?_
      exact mJ_zret dX7_isBefore_14 rfl (Or.inr rfl) (by first | exact z_t (by simp_all [q_bf]) | exact z_f (by simp_all [q_bf])) (rfl)
set_option maxHeartbeats 4000000 in
set_option maxRecDepth 100000 in
theorem C_X7_spansMeet {C : aF} {Hs : tH} {Sw : tS} {T1 : tT} {P1 : tP} {Od : tO} {T2 : tT} {P2 : tP} {b l ob ol : Int32} : mCt k_X7_spansMeet [.int b, .int l, .int ob, .int ol] (cH C Hs Sw T1 P1 Od T2 P2) (some (.int (b2i (q_sm b l ob ol)))) (cH C Hs Sw T1 P1 Od T2 P2) := by
  refine mCt_intro (plainFor_of_name rfl) (Nat.le_of_ble_eq_true rfl) (m_all rfl) (ls := [_, _, _, _]) rfl ?_
  refine mJ_iload_n dX7_spansMeet_0 rfl ?_
  refine mJ_iload_n dX7_spansMeet_1 rfl ?_
  refine mJ_iload_n dX7_spansMeet_2 rfl ?_
  refine mJ_iadd dX7_spansMeet_3 ?_
  refine mJ_icmp_ge 18 dX7_spansMeet_4 rfl (fun c_4 => ?_) (fun c_4 => ?_)
  · refine mJ_iconst (v := 0) dX7_spansMeet_18 rfl ?_
    exact mJ_zret dX7_spansMeet_19 rfl (Or.inl rfl) (by first | exact z_t (by simp_all [q_sm]) | exact z_f (by simp_all [q_sm])) (rfl)
  · refine mJ_iload_n dX7_spansMeet_7 rfl ?_
    refine mJ_iload_n dX7_spansMeet_8 rfl ?_
    refine mJ_iload_n dX7_spansMeet_9 rfl ?_
    refine mJ_iadd dX7_spansMeet_10 ?_
    refine mJ_icmp_ge 18 dX7_spansMeet_11 rfl (fun c_11 => ?_) (fun c_11 => ?_)
    · refine mJ_iconst (v := 0) dX7_spansMeet_18 rfl ?_
      exact mJ_zret dX7_spansMeet_19 rfl (Or.inl rfl) (by first | exact z_t (by simp_all [q_sm]) | exact z_f (by simp_all [q_sm])) (rfl)
    · refine mJ_iconst (v := 1) dX7_spansMeet_14 rfl ?_
      refine mJ_goto 19 dX7_spansMeet_15 rfl ?_
      exact mJ_zret dX7_spansMeet_19 rfl (Or.inr rfl) (by first | exact z_t (by simp_all [q_sm]) | exact z_f (by simp_all [q_sm])) (rfl)
set_option maxHeartbeats 4000000 in
set_option maxRecDepth 100000 in
theorem C_X7_spanLiesIn {C : aF} {Hs : tH} {Sw : tS} {T1 : tT} {P1 : tP} {Od : tO} {T2 : tT} {P2 : tP} {b l ob ol : Int32} : mCt k_X7_spanLiesIn [.int b, .int l, .int ob, .int ol] (cH C Hs Sw T1 P1 Od T2 P2) (some (.int (b2i (q_sl b l ob ol)))) (cH C Hs Sw T1 P1 Od T2 P2) := by
  refine mCt_intro (plainFor_of_name rfl) (Nat.le_of_ble_eq_true rfl) (m_all rfl) (ls := [_, _, _, _]) rfl ?_
  refine mJ_iload_n dX7_spanLiesIn_0 rfl ?_
  refine mJ_iload_n dX7_spanLiesIn_1 rfl ?_
  refine mJ_icmp_lt 18 dX7_spanLiesIn_2 rfl (fun c_2 => ?_) (fun c_2 => ?_)
  · refine mJ_iconst (v := 0) dX7_spanLiesIn_18 rfl ?_
    exact mJ_zret dX7_spanLiesIn_19 rfl (Or.inl rfl) (by first | exact z_t (by simp_all [q_sl]) | exact z_f (by simp_all [q_sl])) (rfl)
  · refine mJ_iload_n dX7_spanLiesIn_5 rfl ?_
    refine mJ_iload_n dX7_spanLiesIn_6 rfl ?_
    refine mJ_iadd dX7_spanLiesIn_7 ?_
    refine mJ_iload_n dX7_spanLiesIn_8 rfl ?_
    refine mJ_iload_n dX7_spanLiesIn_9 rfl ?_
    refine mJ_iadd dX7_spanLiesIn_10 ?_
    refine mJ_icmp_gt 18 dX7_spanLiesIn_11 rfl (fun c_11 => ?_) (fun c_11 => ?_)
    · refine mJ_iconst (v := 0) dX7_spanLiesIn_18 rfl ?_
      exact mJ_zret dX7_spanLiesIn_19 rfl (Or.inl rfl) (by first | exact z_t (by simp_all [q_sl]) | exact z_f (by simp_all [q_sl])) (rfl)
    · refine mJ_iconst (v := 1) dX7_spanLiesIn_14 rfl ?_
      refine mJ_goto 19 dX7_spanLiesIn_15 rfl ?_
      exact mJ_zret dX7_spanLiesIn_19 rfl (Or.inr rfl) (by first | exact z_t (by simp_all [q_sl]) | exact z_f (by simp_all [q_sl])) (rfl)
set_option maxHeartbeats 4000000 in
set_option maxRecDepth 100000 in
theorem C_X2_isGood {C : aF} {Hs : tH} {Sw : tS} {T1 : tT} {P1 : tP} {Od : tO} {T2 : tT} {P2 : tP} {a l m : Int32} : mCt k_X2_isGood [.int a, .int l, .int m] (cH C Hs Sw T1 P1 Od T2 P2) (some (.int (b2i (q_gd a l m)))) (cH C Hs Sw T1 P1 Od T2 P2) := by
  refine mCt_intro (plainFor_of_name rfl) (Nat.le_of_ble_eq_true rfl) (m_all rfl) (ls := [_, _, _]) rfl ?_
  refine mJ_iload_n dX2_isGood_0 rfl ?_
  refine mJ_iload_n dX2_isGood_1 rfl ?_
  refine mJ_icmp_lt 18 dX2_isGood_2 rfl (fun c_2 => ?_) (fun c_2 => ?_)
  · refine mJ_iconst (v := 0) dX2_isGood_18 rfl ?_
    exact mJ_zret dX2_isGood_19 rfl (Or.inl rfl) (by first | exact z_t (by simp_all [q_gd]) | exact z_f (by simp_all [q_gd])) (rfl)
  · refine mJ_iload_n dX2_isGood_5 rfl ?_
    refine mJ_iload_n dX2_isGood_6 rfl ?_
    refine mJ_iconst (v := 1) dX2_isGood_7 rfl ?_
    refine mJ_isub dX2_isGood_8 ?_
    refine mJ_iload_n dX2_isGood_9 rfl ?_
    refine mJ_isub dX2_isGood_10 ?_
    refine mJ_icmp_gt 18 dX2_isGood_11 rfl (fun c_11 => ?_) (fun c_11 => ?_)
    · refine mJ_iconst (v := 0) dX2_isGood_18 rfl ?_
      exact mJ_zret dX2_isGood_19 rfl (Or.inl rfl) (by first | exact z_t (by simp_all [q_gd]) | exact z_f (by simp_all [q_gd])) (rfl)
    · refine mJ_iconst (v := 1) dX2_isGood_14 rfl ?_
      refine mJ_goto 19 dX2_isGood_15 rfl ?_
      exact mJ_zret dX2_isGood_19 rfl (Or.inr rfl) (by first | exact z_t (by simp_all [q_gd]) | exact z_f (by simp_all [q_gd])) (rfl)
set_option maxHeartbeats 4000000 in
set_option maxRecDepth 100000 in
theorem C_J9_max_7cf53 {C : aF} {Hs : tH} {Sw : tS} {T1 : tT} {P1 : tP} {Od : tO} {T2 : tT} {P2 : tP} {x y : Int32} : mCt k_J9_max_7cf53 [.int x, .int y] (cH C Hs Sw T1 P1 Od T2 P2) (some (.int (v_max x y))) (cH C Hs Sw T1 P1 Od T2 P2) := by
  refine mCt_intro (by decide +kernel) (Nat.le_of_ble_eq_true rfl) (m_all rfl) (ls := [_, _]) rfl ?_
  refine mJ_iload_n dJ9_max_7cf53_0 rfl ?_
  refine mJ_iload_n dJ9_max_7cf53_1 rfl ?_
  refine mJ_icmp_lt 9 dJ9_max_7cf53_2 rfl (fun c_2 => ?_) (fun c_2 => ?_)
  · refine mJ_iload_n dJ9_max_7cf53_9 rfl ?_
    exact mJ_iret dJ9_max_7cf53_10 rfl (by simp [v_max, *]) (rfl)
  · refine mJ_iload_n dJ9_max_7cf53_5 rfl ?_
    refine mJ_goto 10 dJ9_max_7cf53_6 rfl ?_
    exact mJ_iret dJ9_max_7cf53_10 rfl (by simp [v_max, *]) (rfl)
set_option maxHeartbeats 4000000 in
set_option maxRecDepth 100000 in
theorem C_J9_min_7cf53 {C : aF} {Hs : tH} {Sw : tS} {T1 : tT} {P1 : tP} {Od : tO} {T2 : tT} {P2 : tP} {x y : Int32} : mCt k_J9_min_7cf53 [.int x, .int y] (cH C Hs Sw T1 P1 Od T2 P2) (some (.int (v_min x y))) (cH C Hs Sw T1 P1 Od T2 P2) := by
  refine mCt_intro (by decide +kernel) (Nat.le_of_ble_eq_true rfl) (m_all rfl) (ls := [_, _]) rfl ?_
  refine mJ_iload_n dJ9_min_7cf53_0 rfl ?_
  refine mJ_iload_n dJ9_min_7cf53_1 rfl ?_
  refine mJ_icmp_gt 9 dJ9_min_7cf53_2 rfl (fun c_2 => ?_) (fun c_2 => ?_)
  · refine mJ_iload_n dJ9_min_7cf53_9 rfl ?_
    exact mJ_iret dJ9_min_7cf53_10 rfl (by simp [v_min, *]) (rfl)
  · refine mJ_iload_n dJ9_min_7cf53_5 rfl ?_
    refine mJ_goto 10 dJ9_min_7cf53_6 rfl ?_
    exact mJ_iret dJ9_min_7cf53_10 rfl (by simp [v_min, *]) (rfl)
set_option maxHeartbeats 4000000 in
set_option maxRecDepth 100000 in
theorem C_J9_floorDiv_7cf53 {C : aF} {Hs : tH} {Sw : tS} {T1 : tT} {P1 : tP} {Od : tO} {T2 : tT} {P2 : tP} {x : Int32} : mCt k_J9_floorDiv_7cf53 [.int x, .int 2] (cH C Hs Sw T1 P1 Od T2 P2) (some (.int (v_fd x 2))) (cH C Hs Sw T1 P1 Od T2 P2) := by
  refine mCt_intro (by decide +kernel) (Nat.le_of_ble_eq_true rfl) (m_all rfl) (ls := [_, _, _]) rfl ?_
  refine mJ_iload_n dJ9_floorDiv_7cf53_0 rfl ?_
  refine mJ_iload_n dJ9_floorDiv_7cf53_1 rfl ?_
  refine mJ_idiv dJ9_floorDiv_7cf53_2 (by decide) ?_
  refine mJ_istore_n dJ9_floorDiv_7cf53_3 (Nat.le_of_ble_eq_true rfl) (ls2 := [_, _, _]) rfl ?_
  refine mJ_iload_n dJ9_floorDiv_7cf53_4 rfl ?_
  refine mJ_iload_n dJ9_floorDiv_7cf53_5 rfl ?_
  refine mJ_ixor dJ9_floorDiv_7cf53_6 ?_
  refine mJ_if_ge 21 dJ9_floorDiv_7cf53_7 rfl (fun c_7 => ?_) (fun c_7 => ?_)
  · refine mJ_iload_n dJ9_floorDiv_7cf53_21 rfl ?_
    exact mJ_iret dJ9_floorDiv_7cf53_22 rfl (by simp [v_fd, *]) (rfl)
  · refine mJ_iload_n dJ9_floorDiv_7cf53_10 rfl ?_
    refine mJ_iload_n dJ9_floorDiv_7cf53_11 rfl ?_
    refine mJ_imul dJ9_floorDiv_7cf53_12 ?_
    refine mJ_iload_n dJ9_floorDiv_7cf53_13 rfl ?_
    refine mJ_icmp_eq 21 dJ9_floorDiv_7cf53_14 rfl (fun c_14 => ?_) (fun c_14 => ?_)
    · refine mJ_iload_n dJ9_floorDiv_7cf53_21 rfl ?_
      exact mJ_iret dJ9_floorDiv_7cf53_22 rfl (by simp [v_fd, *]) (rfl)
    · refine mJ_iload_n dJ9_floorDiv_7cf53_17 rfl ?_
      refine mJ_iconst (v := 1) dJ9_floorDiv_7cf53_18 rfl ?_
      refine mJ_isub dJ9_floorDiv_7cf53_19 ?_
      exact mJ_iret dJ9_floorDiv_7cf53_20 rfl (by simp [v_fd, *]) (rfl)
set_option maxHeartbeats 4000000 in
set_option maxRecDepth 100000 in
theorem C_X7_lowestValue {C : aF} {Hs : tH} {Sw : tS} {T1 : tT} {P1 : tP} {Od : tO} {T2 : tT} {P2 : tP} {w : Int32} : mCt k_X7_lowestValue [.int w] (cH C Hs Sw T1 P1 Od T2 P2) (some (.int (v_lv w))) (cH C Hs Sw T1 P1 Od T2 P2) := by
  refine mCt_intro (plainFor_of_name rfl) (Nat.le_of_ble_eq_true rfl) (m_all rfl) (ls := [_]) rfl ?_
  refine mJ_iload_n dX7_lowestValue_0 rfl ?_
  refine mJ_iconst (v := 1) dX7_lowestValue_1 rfl ?_
  refine mJ_icmp_eq 10 dX7_lowestValue_2 rfl (fun c_2 => ?_) (fun c_2 => ?_)
  · refine mJ_iconst (v := 1) dX7_lowestValue_10 rfl ?_
    refine mJ_goto 15 dX7_lowestValue_11 rfl ?_
    exact mJ_iret dX7_lowestValue_15 rfl (by simp [v_lv, *]) (rfl)
  · refine mJ_iload_n dX7_lowestValue_5 rfl ?_
    refine mJ_iconst (v := 2) dX7_lowestValue_6 rfl ?_
    refine mJ_icmp_ne 14 dX7_lowestValue_7 rfl (fun c_7 => ?_) (fun c_7 => ?_)
    · refine mJ_iconst (v := 0) dX7_lowestValue_14 rfl ?_
      exact mJ_iret dX7_lowestValue_15 rfl (by simp [v_lv, *]) (rfl)
    · refine mJ_iconst (v := 1) dX7_lowestValue_10 rfl ?_
      refine mJ_goto 15 dX7_lowestValue_11 rfl ?_
      exact mJ_iret dX7_lowestValue_15 rfl (by simp [v_lv, *]) (rfl)
set_option maxHeartbeats 4000000 in
set_option maxRecDepth 100000 in
theorem C_X5_get {C : aF} {Hs : tH} {Sw : tS} {T1 : tT} {P1 : tP} {Od : tO} {T2 : tT} {P2 : tP} {i : Int32} : mCt k_X5_get [.ref 1, .int i] (cH C Hs Sw T1 P1 Od T2 P2) (some (.int (gG C i))) (cH C Hs Sw T1 P1 Od T2 P2) := by
  refine mCt_intro (plainFor_of_name rfl) (Nat.le_of_ble_eq_true rfl) (m_all rfl) (ls := [_, _]) rfl ?_
  refine mJ_aload_n dX5_get_0 rfl ?_
  refine mJ_get dX5_get_1 f_X5_14 rfl rfl ?_
  refine mJ_iload_n dX5_get_4 rfl ?_
  refine mJ_cV1i dX5_get_5 e_X3_get n_X5_24 ⟨Nat.le_of_ble_eq_true rfl, Nat.le_of_ble_eq_true rfl⟩ rfl rfl (Nat.le_of_ble_eq_true rfl) (C_X3_get rfl rfl (Nat.le_of_ble_eq_true rfl)) ?_
  exact mJ_iret dX5_get_8 rfl (rfl) (rfl)
set_option maxHeartbeats 4000000 in
set_option maxRecDepth 100000 in
theorem C_X5_put {C : aF} {Hs : tH} {Sw : tS} {T1 : tT} {P1 : tP} {Od : tO} {T2 : tT} {P2 : tP} {i v : Int32} : mCt k_X5_put [.ref 1, .int i, .int v] (cH C Hs Sw T1 P1 Od T2 P2) none (cH (sP C i v) Hs Sw T1 P1 Od T2 P2) := by
  refine mCt_intro (plainFor_of_name rfl) (Nat.le_of_ble_eq_true rfl) (m_all rfl) (ls := [_, _, _]) rfl ?_
  refine mJ_aload_n dX5_put_0 rfl ?_
  refine mJ_get dX5_put_1 f_X5_14 rfl rfl ?_
  refine mJ_iload_n dX5_put_4 rfl ?_
  refine mJ_iload_n dX5_put_5 rfl ?_
  refine mJ_cV2v dX5_put_6 e_X3_put n_X5_20 ⟨Nat.le_of_ble_eq_true rfl, Nat.le_of_ble_eq_true rfl⟩ rfl rfl (Nat.le_of_ble_eq_true rfl) (C_put_3) ?_
  exact mJ_vret dX5_put_9 rfl (rfl) (rfl)
set_option maxHeartbeats 4000000 in
set_option maxRecDepth 100000 in
theorem C_X5_setting {C : aF} {Hs : tH} {Sw : tS} {T1 : tT} {P1 : tP} {Od : tO} {T2 : tT} {P2 : tP} {w : Int32} : mCt k_X5_setting [.ref 1, .int w] (cH C Hs Sw T1 P1 Od T2 P2) (some (.int (gS C w))) (cH C Hs Sw T1 P1 Od T2 P2) := by
  refine mCt_intro (plainFor_of_name rfl) (Nat.le_of_ble_eq_true rfl) (m_all rfl) (ls := [_, _]) rfl ?_
  refine mJ_aload_n dX5_setting_0 rfl ?_
  refine mJ_get dX5_setting_1 f_X5_14 rfl rfl ?_
  refine mJ_bipush (v := 7) dX5_setting_4 rfl ?_
  refine mJ_iload_n dX5_setting_6 rfl ?_
  refine mJ_iadd dX5_setting_7 ?_
  refine mJ_cV1i dX5_setting_8 e_X3_get n_X5_24 ⟨Nat.le_of_ble_eq_true rfl, Nat.le_of_ble_eq_true rfl⟩ rfl rfl (Nat.le_of_ble_eq_true rfl) (C_X3_get rfl rfl (Nat.le_of_ble_eq_true rfl)) ?_
  exact mJ_iret dX5_setting_11 rfl (rfl) (rfl)
set_option maxHeartbeats 4000000 in
set_option maxRecDepth 100000 in
theorem C_X5_anchorValue {C : aF} {Hs : tH} {Sw : tS} {T1 : tT} {P1 : tP} {Od : tO} {T2 : tT} {P2 : tP} {a w : Int32} : mCt k_X5_anchorValue [.ref 1, .int a, .int w] (cH C Hs Sw T1 P1 Od T2 P2) (some (.int (gA C a w))) (cH C Hs Sw T1 P1 Od T2 P2) := by
  refine mCt_intro (plainFor_of_name rfl) (Nat.le_of_ble_eq_true rfl) (m_all rfl) (ls := [_, _, _]) rfl ?_
  refine mJ_aload_n dX5_anchorValue_0 rfl ?_
  refine mJ_get dX5_anchorValue_1 f_X5_14 rfl rfl ?_
  refine mJ_bipush (v := 12) dX5_anchorValue_4 rfl ?_
  refine mJ_iload_n dX5_anchorValue_6 rfl ?_
  refine mJ_iconst (v := 4) dX5_anchorValue_7 rfl ?_
  refine mJ_imul dX5_anchorValue_8 ?_
  refine mJ_iadd dX5_anchorValue_9 ?_
  refine mJ_iload_n dX5_anchorValue_10 rfl ?_
  refine mJ_iadd dX5_anchorValue_11 ?_
  refine mJ_cV1i dX5_anchorValue_12 e_X3_get n_X5_24 ⟨Nat.le_of_ble_eq_true rfl, Nat.le_of_ble_eq_true rfl⟩ rfl rfl (Nat.le_of_ble_eq_true rfl) (C_X3_get rfl rfl (Nat.le_of_ble_eq_true rfl)) ?_
  exact mJ_iret dX5_anchorValue_15 rfl (rfl) (rfl)
set_option maxHeartbeats 4000000 in
set_option maxRecDepth 100000 in
theorem C_X5_hintValue {C : aF} {Hs : tH} {Sw : tS} {T1 : tT} {P1 : tP} {Od : tO} {T2 : tT} {P2 : tP} {h w : Int32} : mCt k_X5_hintValue [.ref 1, .int h, .int w] (cH C Hs Sw T1 P1 Od T2 P2) (some (.int (gH C h w))) (cH C Hs Sw T1 P1 Od T2 P2) := by
  refine mCt_intro (plainFor_of_name rfl) (Nat.le_of_ble_eq_true rfl) (m_all rfl) (ls := [_, _, _]) rfl ?_
  refine mJ_aload_n dX5_hintValue_0 rfl ?_
  refine mJ_get dX5_hintValue_1 f_X5_14 rfl rfl ?_
  refine mJ_bipush (v := 52) dX5_hintValue_4 rfl ?_
  refine mJ_iload_n dX5_hintValue_6 rfl ?_
  refine mJ_bipush (v := 10) dX5_hintValue_7 rfl ?_
  refine mJ_imul dX5_hintValue_9 ?_
  refine mJ_iadd dX5_hintValue_10 ?_
  refine mJ_iload_n dX5_hintValue_11 rfl ?_
  refine mJ_iadd dX5_hintValue_12 ?_
  refine mJ_cV1i dX5_hintValue_13 e_X3_get n_X5_24 ⟨Nat.le_of_ble_eq_true rfl, Nat.le_of_ble_eq_true rfl⟩ rfl rfl (Nat.le_of_ble_eq_true rfl) (C_X3_get rfl rfl (Nat.le_of_ble_eq_true rfl)) ?_
  exact mJ_iret dX5_hintValue_16 rfl (rfl) (rfl)
set_option maxHeartbeats 4000000 in
set_option maxRecDepth 100000 in
theorem C_X5_putAnchorValue {C : aF} {Hs : tH} {Sw : tS} {T1 : tT} {P1 : tP} {Od : tO} {T2 : tT} {P2 : tP} {a v w : Int32} : mCt k_X5_putAnchorValue [.ref 1, .int a, .int w, .int v] (cH C Hs Sw T1 P1 Od T2 P2) none (cH (sA C a w v) Hs Sw T1 P1 Od T2 P2) := by
  refine mCt_intro (plainFor_of_name rfl) (Nat.le_of_ble_eq_true rfl) (m_all rfl) (ls := [_, _, _, _]) rfl ?_
  refine mJ_aload_n dX5_putAnchorValue_0 rfl ?_
  refine mJ_get dX5_putAnchorValue_1 f_X5_14 rfl rfl ?_
  refine mJ_bipush (v := 12) dX5_putAnchorValue_4 rfl ?_
  refine mJ_iload_n dX5_putAnchorValue_6 rfl ?_
  refine mJ_iconst (v := 4) dX5_putAnchorValue_7 rfl ?_
  refine mJ_imul dX5_putAnchorValue_8 ?_
  refine mJ_iadd dX5_putAnchorValue_9 ?_
  refine mJ_iload_n dX5_putAnchorValue_10 rfl ?_
  refine mJ_iadd dX5_putAnchorValue_11 ?_
  refine mJ_iload_n dX5_putAnchorValue_12 rfl ?_
  refine mJ_cV2v dX5_putAnchorValue_13 e_X3_put n_X5_20 ⟨Nat.le_of_ble_eq_true rfl, Nat.le_of_ble_eq_true rfl⟩ rfl rfl (Nat.le_of_ble_eq_true rfl) (C_put_3) ?_
  exact mJ_vret dX5_putAnchorValue_16 rfl (rfl) (rfl)
set_option maxHeartbeats 4000000 in
set_option maxRecDepth 100000 in
theorem C_X5_putHintValue {C : aF} {Hs : tH} {Sw : tS} {T1 : tT} {P1 : tP} {Od : tO} {T2 : tT} {P2 : tP} {h v w : Int32} : mCt k_X5_putHintValue [.ref 1, .int h, .int w, .int v] (cH C Hs Sw T1 P1 Od T2 P2) none (cH (sH C h w v) Hs Sw T1 P1 Od T2 P2) := by
  refine mCt_intro (plainFor_of_name rfl) (Nat.le_of_ble_eq_true rfl) (m_all rfl) (ls := [_, _, _, _]) rfl ?_
  refine mJ_aload_n dX5_putHintValue_0 rfl ?_
  refine mJ_get dX5_putHintValue_1 f_X5_14 rfl rfl ?_
  refine mJ_bipush (v := 52) dX5_putHintValue_4 rfl ?_
  refine mJ_iload_n dX5_putHintValue_6 rfl ?_
  refine mJ_bipush (v := 10) dX5_putHintValue_7 rfl ?_
  refine mJ_imul dX5_putHintValue_9 ?_
  refine mJ_iadd dX5_putHintValue_10 ?_
  refine mJ_iload_n dX5_putHintValue_11 rfl ?_
  refine mJ_iadd dX5_putHintValue_12 ?_
  refine mJ_iload_n dX5_putHintValue_13 rfl ?_
  refine mJ_cV2v dX5_putHintValue_14 e_X3_put n_X5_20 ⟨Nat.le_of_ble_eq_true rfl, Nat.le_of_ble_eq_true rfl⟩ rfl rfl (Nat.le_of_ble_eq_true rfl) (C_put_3) ?_
  exact mJ_vret dX5_putHintValue_17 rfl (rfl) (rfl)
set_option maxHeartbeats 4000000 in
set_option maxRecDepth 100000 in
theorem C_X5_isOpen {C : aF} {Hs : tH} {Sw : tS} {T1 : tT} {P1 : tP} {Od : tO} {T2 : tT} {P2 : tP} {h : Int32} : mCt k_X5_isOpen [.ref 1, .int h] (cH C Hs Sw T1 P1 Od T2 P2) (some (.int (b2i (q_open C h)))) (cH C Hs Sw T1 P1 Od T2 P2) := by
  refine mCt_intro (plainFor_of_name rfl) (Nat.le_of_ble_eq_true rfl) (m_all rfl) (ls := [_, _]) rfl ?_
  refine mJ_aload_n dX5_isOpen_0 rfl ?_
  refine mJ_iload_n dX5_isOpen_1 rfl ?_
  refine mJ_bipush (v := 8) dX5_isOpen_2 rfl ?_
  refine mJ_cV2i dX5_isOpen_4 e_X5_hintValue n_X5_28 ⟨Nat.le_of_ble_eq_true rfl, Nat.le_of_ble_eq_true rfl⟩ rfl rfl (Nat.le_of_ble_eq_true rfl) (C_X5_hintValue) ?_
  refine mJ_if_eq 14 dX5_isOpen_7 rfl (fun c_7 => ?_) (fun c_7 => ?_)
  · refine mJ_iconst (v := 0) dX5_isOpen_14 rfl ?_
    exact mJ_zret dX5_isOpen_15 rfl (Or.inl rfl) (by first | exact z_t (by simp_all [q_open]) | exact z_f (by simp_all [q_open])) (rfl)
  · refine mJ_iconst (v := 1) dX5_isOpen_10 rfl ?_
    refine mJ_goto 15 dX5_isOpen_11 rfl ?_
    exact mJ_zret dX5_isOpen_15 rfl (Or.inr rfl) (by first | exact z_t (by simp_all [q_open]) | exact z_f (by simp_all [q_open])) (rfl)
set_option maxHeartbeats 4000000 in
set_option maxRecDepth 100000 in
theorem C_X5_anchorMeets {C : aF} {Hs : tH} {Sw : tS} {T1 : tT} {P1 : tP} {Od : tO} {T2 : tT} {P2 : tP} {a h w x y : Int32} : mCt k_X5_anchorMeets [.ref 1, .int a, .int x, .int y, .int w, .int h] (cH C Hs Sw T1 P1 Od T2 P2) (some (.int (b2i (q_am C a x y w h)))) (cH C Hs Sw T1 P1 Od T2 P2) := by
  refine mCt_intro (plainFor_of_name rfl) (Nat.le_of_ble_eq_true rfl) (m_all rfl) (ls := [_, _, _, _, _, _]) rfl ?_
  refine mJ_aload_n dX5_anchorMeets_0 rfl ?_
  refine mJ_iload_n dX5_anchorMeets_1 rfl ?_
  refine mJ_iconst (v := 0) dX5_anchorMeets_2 rfl ?_
  refine mJ_cV2i dX5_anchorMeets_3 e_X5_anchorValue n_X5_37 ⟨Nat.le_of_ble_eq_true rfl, Nat.le_of_ble_eq_true rfl⟩ rfl rfl (Nat.le_of_ble_eq_true rfl) (C_X5_anchorValue) ?_
  refine mJ_aload_n dX5_anchorMeets_6 rfl ?_
  refine mJ_iload_n dX5_anchorMeets_7 rfl ?_
  refine mJ_iconst (v := 2) dX5_anchorMeets_8 rfl ?_
  refine mJ_cV2i dX5_anchorMeets_9 e_X5_anchorValue n_X5_37 ⟨Nat.le_of_ble_eq_true rfl, Nat.le_of_ble_eq_true rfl⟩ rfl rfl (Nat.le_of_ble_eq_true rfl) (C_X5_anchorValue) ?_
  refine mJ_iload_n dX5_anchorMeets_12 rfl ?_
  refine mJ_iload dX5_anchorMeets_13 rfl ?_
  refine mJ_cS4i dX5_anchorMeets_15 e_X7_spansMeet n_X5_40 ⟨Nat.le_of_ble_eq_true rfl, Nat.le_of_ble_eq_true rfl⟩ (Nat.le_of_ble_eq_true rfl) (C_X7_spansMeet) ?_
  refine mJ_b2i (fun b_15 => ?_) (fun b_15 => ?_)
  · refine mJ_if_eq 46 dX5_anchorMeets_18 rfl (fun c => absurd c (by decide)) (fun _ => ?_)
    refine mJ_aload_n dX5_anchorMeets_21 rfl ?_
    refine mJ_iload_n dX5_anchorMeets_22 rfl ?_
    refine mJ_iconst (v := 1) dX5_anchorMeets_23 rfl ?_
    refine mJ_cV2i dX5_anchorMeets_24 e_X5_anchorValue n_X5_37 ⟨Nat.le_of_ble_eq_true rfl, Nat.le_of_ble_eq_true rfl⟩ rfl rfl (Nat.le_of_ble_eq_true rfl) (C_X5_anchorValue) ?_
    refine mJ_aload_n dX5_anchorMeets_27 rfl ?_
    refine mJ_iload_n dX5_anchorMeets_28 rfl ?_
    refine mJ_iconst (v := 3) dX5_anchorMeets_29 rfl ?_
    refine mJ_cV2i dX5_anchorMeets_30 e_X5_anchorValue n_X5_37 ⟨Nat.le_of_ble_eq_true rfl, Nat.le_of_ble_eq_true rfl⟩ rfl rfl (Nat.le_of_ble_eq_true rfl) (C_X5_anchorValue) ?_
    refine mJ_iload_n dX5_anchorMeets_33 rfl ?_
    refine mJ_iload dX5_anchorMeets_34 rfl ?_
    refine mJ_cS4i dX5_anchorMeets_36 e_X7_spansMeet n_X5_40 ⟨Nat.le_of_ble_eq_true rfl, Nat.le_of_ble_eq_true rfl⟩ (Nat.le_of_ble_eq_true rfl) (C_X7_spansMeet) ?_
    refine mJ_b2i (fun b_36 => ?_) (fun b_36 => ?_)
    · refine mJ_if_eq 46 dX5_anchorMeets_39 rfl (fun c => absurd c (by decide)) (fun _ => ?_)
      refine mJ_iconst (v := 1) dX5_anchorMeets_42 rfl ?_
      refine mJ_goto 47 dX5_anchorMeets_43 rfl ?_
      exact mJ_zret dX5_anchorMeets_47 rfl (Or.inr rfl) (by first | exact z_t (by simp_all [q_am]) | exact z_f (by simp_all [q_am])) (rfl)
    · refine mJ_if_eq 46 dX5_anchorMeets_39 rfl (fun _ => ?_) (fun c => absurd c (by decide))
      refine mJ_iconst (v := 0) dX5_anchorMeets_46 rfl ?_
      exact mJ_zret dX5_anchorMeets_47 rfl (Or.inl rfl) (by first | exact z_t (by simp_all [q_am]) | exact z_f (by simp_all [q_am])) (rfl)
  · refine mJ_if_eq 46 dX5_anchorMeets_18 rfl (fun _ => ?_) (fun c => absurd c (by decide))
    refine mJ_iconst (v := 0) dX5_anchorMeets_46 rfl ?_
    exact mJ_zret dX5_anchorMeets_47 rfl (Or.inl rfl) (by first | exact z_t (by simp_all [q_am]) | exact z_f (by simp_all [q_am])) (rfl)
set_option maxHeartbeats 4000000 in
set_option maxRecDepth 100000 in
theorem C_X5_isAnchorInSight {C : aF} {Hs : tH} {Sw : tS} {T1 : tT} {P1 : tP} {Od : tO} {T2 : tT} {P2 : tP} {a : Int32} : mCt k_X5_isAnchorInSight [.ref 1, .int a] (cH C Hs Sw T1 P1 Od T2 P2) (some (.int (b2i (q_as C a)))) (cH C Hs Sw T1 P1 Od T2 P2) := by
  refine mCt_intro (plainFor_of_name rfl) (Nat.le_of_ble_eq_true rfl) (m_all rfl) (ls := [_, _]) rfl ?_
  refine mJ_aload_n dX5_isAnchorInSight_0 rfl ?_
  refine mJ_iload_n dX5_isAnchorInSight_1 rfl ?_
  refine mJ_aload_n dX5_isAnchorInSight_2 rfl ?_
  refine mJ_iconst (v := 0) dX5_isAnchorInSight_3 rfl ?_
  refine mJ_cV1i dX5_isAnchorInSight_4 e_X5_get n_X5_32 ⟨Nat.le_of_ble_eq_true rfl, Nat.le_of_ble_eq_true rfl⟩ rfl rfl (Nat.le_of_ble_eq_true rfl) (C_X5_get) ?_
  refine mJ_aload_n dX5_isAnchorInSight_7 rfl ?_
  refine mJ_iconst (v := 1) dX5_isAnchorInSight_8 rfl ?_
  refine mJ_cV1i dX5_isAnchorInSight_9 e_X5_get n_X5_32 ⟨Nat.le_of_ble_eq_true rfl, Nat.le_of_ble_eq_true rfl⟩ rfl rfl (Nat.le_of_ble_eq_true rfl) (C_X5_get) ?_
  refine mJ_aload_n dX5_isAnchorInSight_12 rfl ?_
  refine mJ_iconst (v := 2) dX5_isAnchorInSight_13 rfl ?_
  refine mJ_cV1i dX5_isAnchorInSight_14 e_X5_get n_X5_32 ⟨Nat.le_of_ble_eq_true rfl, Nat.le_of_ble_eq_true rfl⟩ rfl rfl (Nat.le_of_ble_eq_true rfl) (C_X5_get) ?_
  refine mJ_aload_n dX5_isAnchorInSight_17 rfl ?_
  refine mJ_iconst (v := 3) dX5_isAnchorInSight_18 rfl ?_
  refine mJ_cV1i dX5_isAnchorInSight_19 e_X5_get n_X5_32 ⟨Nat.le_of_ble_eq_true rfl, Nat.le_of_ble_eq_true rfl⟩ rfl rfl (Nat.le_of_ble_eq_true rfl) (C_X5_get) ?_
  refine mJ_cV5i dX5_isAnchorInSight_22 e_X5_anchorMeets n_X5_33 ⟨Nat.le_of_ble_eq_true rfl, Nat.le_of_ble_eq_true rfl⟩ rfl rfl (Nat.le_of_ble_eq_true rfl) (C_X5_anchorMeets) ?_
  exact mJ_zret dX5_isAnchorInSight_25 rfl (b2i_01 _) (rfl) (rfl)
set_option maxHeartbeats 4000000 in
set_option maxRecDepth 100000 in
theorem C_X5_goesBefore {C : aF} {Hs : tH} {Sw : tS} {T1 : tT} {P1 : tP} {Od : tO} {T2 : tT} {P2 : tP} {h o : Int32} : mCt k_X5_goesBefore [.ref 1, .int h, .int o] (cH C Hs Sw T1 P1 Od T2 P2) (some (.int (b2i (q_gb C h o)))) (cH C Hs Sw T1 P1 Od T2 P2) := by
  refine mCt_intro (plainFor_of_name rfl) (Nat.le_of_ble_eq_true rfl) (m_all rfl) (ls := [_, _, _, _, _]) rfl ?_
  refine mJ_aload_n dX5_goesBefore_0 rfl ?_
  refine mJ_iload_n dX5_goesBefore_1 rfl ?_
  refine mJ_bipush (v := 7) dX5_goesBefore_2 rfl ?_
  refine mJ_cV2i dX5_goesBefore_4 e_X5_hintValue n_X5_28 ⟨Nat.le_of_ble_eq_true rfl, Nat.le_of_ble_eq_true rfl⟩ rfl rfl (Nat.le_of_ble_eq_true rfl) (C_X5_hintValue) ?_
  refine mJ_istore_n dX5_goesBefore_7 (Nat.le_of_ble_eq_true rfl) (ls2 := [_, _, _, _, _]) rfl ?_
  refine mJ_aload_n dX5_goesBefore_8 rfl ?_
  refine mJ_iload_n dX5_goesBefore_9 rfl ?_
  refine mJ_bipush (v := 7) dX5_goesBefore_10 rfl ?_
  refine mJ_cV2i dX5_goesBefore_12 e_X5_hintValue n_X5_28 ⟨Nat.le_of_ble_eq_true rfl, Nat.le_of_ble_eq_true rfl⟩ rfl rfl (Nat.le_of_ble_eq_true rfl) (C_X5_hintValue) ?_
  refine mJ_istore dX5_goesBefore_15 (Nat.le_of_ble_eq_true rfl) (ls2 := [_, _, _, _, _]) rfl ?_
  refine mJ_iload_n dX5_goesBefore_17 rfl ?_
  refine mJ_iload dX5_goesBefore_18 rfl ?_
  refine mJ_icmp_eq 35 dX5_goesBefore_20 rfl (fun c_20 => ?_) (fun c_20 => ?_)
  · refine mJ_aload_n dX5_goesBefore_35 rfl ?_
    refine mJ_iload_n dX5_goesBefore_36 rfl ?_
    refine mJ_bipush (v := 8) dX5_goesBefore_37 rfl ?_
    refine mJ_cV2i dX5_goesBefore_39 e_X5_hintValue n_X5_28 ⟨Nat.le_of_ble_eq_true rfl, Nat.le_of_ble_eq_true rfl⟩ rfl rfl (Nat.le_of_ble_eq_true rfl) (C_X5_hintValue) ?_
    refine mJ_aload_n dX5_goesBefore_42 rfl ?_
    refine mJ_iload_n dX5_goesBefore_43 rfl ?_
    refine mJ_bipush (v := 8) dX5_goesBefore_44 rfl ?_
    refine mJ_cV2i dX5_goesBefore_46 e_X5_hintValue n_X5_28 ⟨Nat.le_of_ble_eq_true rfl, Nat.le_of_ble_eq_true rfl⟩ rfl rfl (Nat.le_of_ble_eq_true rfl) (C_X5_hintValue) ?_
    refine mJ_icmp_ge 56 dX5_goesBefore_49 rfl (fun c_49 => ?_) (fun c_49 => ?_)
    · refine mJ_iconst (v := 0) dX5_goesBefore_56 rfl ?_
      exact mJ_zret dX5_goesBefore_57 rfl (Or.inl rfl) (by first | exact z_t (by simp_all [q_gb]) | exact z_f (by simp_all [q_gb])) (rfl)
    · refine mJ_iconst (v := 1) dX5_goesBefore_52 rfl ?_
      refine mJ_goto 57 dX5_goesBefore_53 rfl ?_
      exact mJ_zret dX5_goesBefore_57 rfl (Or.inr rfl) (by first | exact z_t (by simp_all [q_gb]) | exact z_f (by simp_all [q_gb])) (rfl)
  · refine mJ_iload_n dX5_goesBefore_23 rfl ?_
    refine mJ_iload dX5_goesBefore_24 rfl ?_
    refine mJ_icmp_le 33 dX5_goesBefore_26 rfl (fun c_26 => ?_) (fun c_26 => ?_)
    · refine mJ_iconst (v := 0) dX5_goesBefore_33 rfl ?_
      exact mJ_zret dX5_goesBefore_34 rfl (Or.inl rfl) (by first | exact z_t (by simp_all [q_gb]) | exact z_f (by simp_all [q_gb])) (rfl)
    · refine mJ_iconst (v := 1) dX5_goesBefore_29 rfl ?_
      refine mJ_goto 34 dX5_goesBefore_30 rfl ?_
      exact mJ_zret dX5_goesBefore_34 rfl (Or.inr rfl) (by first | exact z_t (by simp_all [q_gb]) | exact z_f (by simp_all [q_gb])) (rfl)
set_option maxHeartbeats 4000000 in
set_option maxRecDepth 100000 in
theorem C_X7_isAnchor {C : aF} {Hs : tH} {Sw : tS} {T1 : tT} {P1 : tP} {Od : tO} {T2 : tT} {P2 : tP} {v : Int32} : mCt k_X7_isAnchor [.ref 0, .int v] (cH C Hs Sw T1 P1 Od T2 P2) (some (.int (b2i (q_anchor C v)))) (cH C Hs Sw T1 P1 Od T2 P2) := by
  refine mCt_intro (plainFor_of_name rfl) (Nat.le_of_ble_eq_true rfl) (m_all rfl) (ls := [_, _]) rfl ?_
  refine mJ_iload_n dX7_isAnchor_0 rfl ?_
  refine mJ_if_lt 20 dX7_isAnchor_1 rfl (fun c_1 => ?_) (fun c_1 => ?_)
  · refine mJ_iconst (v := 0) dX7_isAnchor_20 rfl ?_
    exact mJ_zret dX7_isAnchor_21 rfl (Or.inl rfl) (by first | exact z_t (by simp_all [q_anchor]) | exact z_f (by simp_all [q_anchor])) (rfl)
  · refine mJ_iload_n dX7_isAnchor_4 rfl ?_
    refine mJ_aload_n dX7_isAnchor_5 rfl ?_
    refine mJ_get dX7_isAnchor_6 f_X7_12 rfl rfl ?_
    refine mJ_iconst (v := 4) dX7_isAnchor_9 rfl ?_
    refine mJ_cV1i dX7_isAnchor_10 e_X5_get n_X7_80 ⟨Nat.le_of_ble_eq_true rfl, Nat.le_of_ble_eq_true rfl⟩ rfl rfl (Nat.le_of_ble_eq_true rfl) (C_X5_get) ?_
    refine mJ_icmp_ge 20 dX7_isAnchor_13 rfl (fun c_13 => ?_) (fun c_13 => ?_)
    · refine mJ_iconst (v := 0) dX7_isAnchor_20 rfl ?_
      exact mJ_zret dX7_isAnchor_21 rfl (Or.inl rfl) (by first | exact z_t (by simp_all [q_anchor]) | exact z_f (by simp_all [q_anchor])) (rfl)
    · refine mJ_iconst (v := 1) dX7_isAnchor_16 rfl ?_
      refine mJ_goto 21 dX7_isAnchor_17 rfl ?_
      exact mJ_zret dX7_isAnchor_21 rfl (Or.inr rfl) (by first | exact z_t (by simp_all [q_anchor]) | exact z_f (by simp_all [q_anchor])) (rfl)
set_option maxHeartbeats 4000000 in
set_option maxRecDepth 100000 in
theorem C_X7_isHint {C : aF} {Hs : tH} {Sw : tS} {T1 : tT} {P1 : tP} {Od : tO} {T2 : tT} {P2 : tP} {v : Int32} : mCt k_X7_isHint [.ref 0, .int v] (cH C Hs Sw T1 P1 Od T2 P2) (some (.int (b2i (q_hint C v)))) (cH C Hs Sw T1 P1 Od T2 P2) := by
  refine mCt_intro (plainFor_of_name rfl) (Nat.le_of_ble_eq_true rfl) (m_all rfl) (ls := [_, _]) rfl ?_
  refine mJ_iload_n dX7_isHint_0 rfl ?_
  refine mJ_if_lt 20 dX7_isHint_1 rfl (fun c_1 => ?_) (fun c_1 => ?_)
  · refine mJ_iconst (v := 0) dX7_isHint_20 rfl ?_
    exact mJ_zret dX7_isHint_21 rfl (Or.inl rfl) (by first | exact z_t (by simp_all [q_hint]) | exact z_f (by simp_all [q_hint])) (rfl)
  · refine mJ_iload_n dX7_isHint_4 rfl ?_
    refine mJ_aload_n dX7_isHint_5 rfl ?_
    refine mJ_get dX7_isHint_6 f_X7_12 rfl rfl ?_
    refine mJ_iconst (v := 5) dX7_isHint_9 rfl ?_
    refine mJ_cV1i dX7_isHint_10 e_X5_get n_X7_80 ⟨Nat.le_of_ble_eq_true rfl, Nat.le_of_ble_eq_true rfl⟩ rfl rfl (Nat.le_of_ble_eq_true rfl) (C_X5_get) ?_
    refine mJ_icmp_ge 20 dX7_isHint_13 rfl (fun c_13 => ?_) (fun c_13 => ?_)
    · refine mJ_iconst (v := 0) dX7_isHint_20 rfl ?_
      exact mJ_zret dX7_isHint_21 rfl (Or.inl rfl) (by first | exact z_t (by simp_all [q_hint]) | exact z_f (by simp_all [q_hint])) (rfl)
    · refine mJ_iconst (v := 1) dX7_isHint_16 rfl ?_
      refine mJ_goto 21 dX7_isHint_17 rfl ?_
      exact mJ_zret dX7_isHint_21 rfl (Or.inr rfl) (by first | exact z_t (by simp_all [q_hint]) | exact z_f (by simp_all [q_hint])) (rfl)
set_option maxHeartbeats 4000000 in
set_option maxRecDepth 100000 in
theorem C_X7_highestValue {C : aF} {Hs : tH} {Sw : tS} {T1 : tT} {P1 : tP} {Od : tO} {T2 : tT} {P2 : tP} {w : Int32} : mCt k_X7_highestValue [.ref 0, .int w] (cH C Hs Sw T1 P1 Od T2 P2) (some (.int (v_hv C w))) (cH C Hs Sw T1 P1 Od T2 P2) := by
  refine mCt_intro (plainFor_of_name rfl) (Nat.le_of_ble_eq_true rfl) (m_all rfl) (ls := [_, _]) rfl ?_
  refine mJ_iload_n dX7_highestValue_0 rfl ?_
  refine mJ_case 0 (fun s_1_0 => ?_) (fun s_1_0 => ?_)
  · refine mJ_tin 44 dX7_highestValue_1 (by decide) (by decide) rfl rfl ?_
    refine mJ_aload_n dX7_highestValue_44 rfl ?_
    refine mJ_get dX7_highestValue_45 f_X7_12 rfl rfl ?_
    refine mJ_iconst (v := 4) dX7_highestValue_48 rfl ?_
    refine mJ_cV1i dX7_highestValue_49 e_X5_get n_X7_80 ⟨Nat.le_of_ble_eq_true rfl, Nat.le_of_ble_eq_true rfl⟩ rfl rfl (Nat.le_of_ble_eq_true rfl) (C_X5_get) ?_
    refine mJ_iconst (v := 1) dX7_highestValue_52 rfl ?_
    refine mJ_isub dX7_highestValue_53 ?_
    exact mJ_iret dX7_highestValue_54 rfl (by simp [v_hv, *]) (rfl)
  refine mJ_case 1 (fun s_1_1 => ?_) (fun s_1_1 => ?_)
  · refine mJ_tin 55 dX7_highestValue_1 (by decide) (by decide) rfl rfl ?_
    refine mJ_sipush (v := 200) dX7_highestValue_55 rfl ?_
    exact mJ_iret dX7_highestValue_58 rfl (by simp [v_hv, *]) (rfl)
  refine mJ_case 2 (fun s_1_2 => ?_) (fun s_1_2 => ?_)
  · refine mJ_tin 55 dX7_highestValue_1 (by decide) (by decide) rfl rfl ?_
    refine mJ_sipush (v := 200) dX7_highestValue_55 rfl ?_
    exact mJ_iret dX7_highestValue_58 rfl (by simp [v_hv, *]) (rfl)
  refine mJ_case 3 (fun s_1_3 => ?_) (fun s_1_3 => ?_)
  · refine mJ_tin 59 dX7_highestValue_1 (by decide) (by decide) rfl rfl ?_
    refine mJ_iconst (v := 3) dX7_highestValue_59 rfl ?_
    exact mJ_iret dX7_highestValue_60 rfl (by simp [v_hv, *]) (rfl)
  refine mJ_case 4 (fun s_1_4 => ?_) (fun s_1_4 => ?_)
  · refine mJ_tin 61 dX7_highestValue_1 (by decide) (by decide) rfl rfl ?_
    refine mJ_iconst (v := 2) dX7_highestValue_61 rfl ?_
    exact mJ_iret dX7_highestValue_62 rfl (by simp [v_hv, *]) (rfl)
  refine mJ_case 5 (fun s_1_5 => ?_) (fun s_1_5 => ?_)
  · refine mJ_tin 61 dX7_highestValue_1 (by decide) (by decide) rfl rfl ?_
    refine mJ_iconst (v := 2) dX7_highestValue_61 rfl ?_
    exact mJ_iret dX7_highestValue_62 rfl (by simp [v_hv, *]) (rfl)
  refine mJ_case 6 (fun s_1_6 => ?_) (fun s_1_6 => ?_)
  · refine mJ_tin 63 dX7_highestValue_1 (by decide) (by decide) rfl rfl ?_
    refine mJ_iconst (v := 1) dX7_highestValue_63 rfl ?_
    exact mJ_iret dX7_highestValue_64 rfl (by simp [v_hv, *]) (rfl)
  refine mJ_tout 65 dX7_highestValue_1 (m_out (fun z z1 z2 z3 => ?_)) rfl ?_
  · rcases (show z = 0 ∨ z = 1 ∨ z = 2 ∨ z = 3 ∨ z = 4 ∨ z = 5 ∨ z = 6 by omega) with rfl | rfl | rfl | rfl | rfl | rfl | rfl
    · exact s_1_0 (Int32.toInt_inj.mp z3)
    · exact s_1_1 (Int32.toInt_inj.mp z3)
    · exact s_1_2 (Int32.toInt_inj.mp z3)
    · exact s_1_3 (Int32.toInt_inj.mp z3)
    · exact s_1_4 (Int32.toInt_inj.mp z3)
    · exact s_1_5 (Int32.toInt_inj.mp z3)
    · exact s_1_6 (Int32.toInt_inj.mp z3)
  · refine mJ_bipush (v := 9) dX7_highestValue_65 rfl ?_
    exact mJ_iret dX7_highestValue_67 rfl (by simp [v_hv, *]) (rfl)
set_option maxHeartbeats 4000000 in
set_option maxRecDepth 100000 in
theorem C_X7_canMoveView {C : aF} {Hs : tH} {Sw : tS} {T1 : tT} {P1 : tP} {Od : tO} {T2 : tT} {P2 : tP} {x y : Int32} : mCt k_X7_canMoveView [.ref 0, .int x, .int y] (cH C Hs Sw T1 P1 Od T2 P2) (some (.int (b2i (q_cm C x y)))) (cH C Hs Sw T1 P1 Od T2 P2) := by
  refine mCt_intro (plainFor_of_name rfl) (Nat.le_of_ble_eq_true rfl) (m_all rfl) (ls := [_, _, _]) rfl ?_
  refine mJ_aload_n dX7_canMoveView_0 rfl ?_
  refine mJ_get dX7_canMoveView_1 f_X7_12 rfl rfl ?_
  refine mJ_iconst (v := 0) dX7_canMoveView_4 rfl ?_
  refine mJ_cV1i dX7_canMoveView_5 e_X5_get n_X7_80 ⟨Nat.le_of_ble_eq_true rfl, Nat.le_of_ble_eq_true rfl⟩ rfl rfl (Nat.le_of_ble_eq_true rfl) (C_X5_get) ?_
  refine mJ_iload_n dX7_canMoveView_8 rfl ?_
  refine mJ_iadd dX7_canMoveView_9 ?_
  refine mJ_sipush (v := 2000) dX7_canMoveView_10 rfl ?_
  refine mJ_cS2i dX7_canMoveView_13 e_X7_isWithin n_X7_67 ⟨Nat.le_of_ble_eq_true rfl, Nat.le_of_ble_eq_true rfl⟩ (Nat.le_of_ble_eq_true rfl) (C_X7_isWithin) ?_
  refine mJ_b2i (fun b_13 => ?_) (fun b_13 => ?_)
  · refine mJ_if_eq 42 dX7_canMoveView_16 rfl (fun c => absurd c (by decide)) (fun _ => ?_)
    refine mJ_aload_n dX7_canMoveView_19 rfl ?_
    refine mJ_get dX7_canMoveView_20 f_X7_12 rfl rfl ?_
    refine mJ_iconst (v := 1) dX7_canMoveView_23 rfl ?_
    refine mJ_cV1i dX7_canMoveView_24 e_X5_get n_X7_80 ⟨Nat.le_of_ble_eq_true rfl, Nat.le_of_ble_eq_true rfl⟩ rfl rfl (Nat.le_of_ble_eq_true rfl) (C_X5_get) ?_
    refine mJ_iload_n dX7_canMoveView_27 rfl ?_
    refine mJ_iadd dX7_canMoveView_28 ?_
    refine mJ_sipush (v := 2000) dX7_canMoveView_29 rfl ?_
    refine mJ_cS2i dX7_canMoveView_32 e_X7_isWithin n_X7_67 ⟨Nat.le_of_ble_eq_true rfl, Nat.le_of_ble_eq_true rfl⟩ (Nat.le_of_ble_eq_true rfl) (C_X7_isWithin) ?_
    refine mJ_b2i (fun b_32 => ?_) (fun b_32 => ?_)
    · refine mJ_if_eq 42 dX7_canMoveView_35 rfl (fun c => absurd c (by decide)) (fun _ => ?_)
      refine mJ_iconst (v := 1) dX7_canMoveView_38 rfl ?_
      refine mJ_goto 43 dX7_canMoveView_39 rfl ?_
      exact mJ_zret dX7_canMoveView_43 rfl (Or.inr rfl) (by first | exact z_t (by simp_all [q_cm]) | exact z_f (by simp_all [q_cm])) (rfl)
    · refine mJ_if_eq 42 dX7_canMoveView_35 rfl (fun _ => ?_) (fun c => absurd c (by decide))
      refine mJ_iconst (v := 0) dX7_canMoveView_42 rfl ?_
      exact mJ_zret dX7_canMoveView_43 rfl (Or.inl rfl) (by first | exact z_t (by simp_all [q_cm]) | exact z_f (by simp_all [q_cm])) (rfl)
  · refine mJ_if_eq 42 dX7_canMoveView_16 rfl (fun _ => ?_) (fun c => absurd c (by decide))
    refine mJ_iconst (v := 0) dX7_canMoveView_42 rfl ?_
    exact mJ_zret dX7_canMoveView_43 rfl (Or.inl rfl) (by first | exact z_t (by simp_all [q_cm]) | exact z_f (by simp_all [q_cm])) (rfl)
set_option maxHeartbeats 4000000 in
set_option maxRecDepth 100000 in
theorem C_X2_beginAlong_1 {C : aF} {Hs : tH} {Sw : tS} {T1 : tT} {P1 : tP} {Od : tO} {T2 : tT} {P2 : tP} {h : Int32} : mCt k_X2_beginAlong [.ref 1, .int h, .int 1] (cH C Hs Sw T1 P1 Od T2 P2) (some (.int (v_beg C h 0 2 1))) (cH C Hs Sw T1 P1 Od T2 P2) := by
  refine mCt_intro (plainFor_of_name rfl) (Nat.le_of_ble_eq_true rfl) (m_all rfl) (ls := [_, _, _, _, _, _]) rfl ?_
  refine mJ_aload_n dX2_beginAlong_0 rfl ?_
  refine mJ_iload_n dX2_beginAlong_1 rfl ?_
  refine mJ_iconst (v := 0) dX2_beginAlong_2 rfl ?_
  refine mJ_cV2i dX2_beginAlong_3 e_X5_hintValue n_X2_9 ⟨Nat.le_of_ble_eq_true rfl, Nat.le_of_ble_eq_true rfl⟩ rfl rfl (Nat.le_of_ble_eq_true rfl) (C_X5_hintValue) ?_
  refine mJ_istore_n dX2_beginAlong_6 (Nat.le_of_ble_eq_true rfl) (ls2 := [_, _, _, _, _, _]) rfl ?_
  refine mJ_aload_n dX2_beginAlong_7 rfl ?_
  refine mJ_iload_n dX2_beginAlong_8 rfl ?_
  refine mJ_iload_n dX2_beginAlong_9 rfl ?_
  refine mJ_if_eq 17 dX2_beginAlong_10 rfl (fun c => absurd c (by decide)) (fun _ => ?_)
  refine mJ_iconst (v := 0) dX2_beginAlong_13 rfl ?_
  refine mJ_goto 18 dX2_beginAlong_14 rfl ?_
  refine mJ_cV2i dX2_beginAlong_18 e_X5_anchorValue n_X2_74 ⟨Nat.le_of_ble_eq_true rfl, Nat.le_of_ble_eq_true rfl⟩ rfl rfl (Nat.le_of_ble_eq_true rfl) (C_X5_anchorValue) ?_
  refine mJ_istore dX2_beginAlong_21 (Nat.le_of_ble_eq_true rfl) (ls2 := [_, _, _, _, _, _]) rfl ?_
  refine mJ_aload_n dX2_beginAlong_23 rfl ?_
  refine mJ_iload_n dX2_beginAlong_24 rfl ?_
  refine mJ_iload_n dX2_beginAlong_25 rfl ?_
  refine mJ_if_eq 33 dX2_beginAlong_26 rfl (fun c => absurd c (by decide)) (fun _ => ?_)
  refine mJ_iconst (v := 2) dX2_beginAlong_29 rfl ?_
  refine mJ_goto 34 dX2_beginAlong_30 rfl ?_
  refine mJ_cV2i dX2_beginAlong_34 e_X5_anchorValue n_X2_74 ⟨Nat.le_of_ble_eq_true rfl, Nat.le_of_ble_eq_true rfl⟩ rfl rfl (Nat.le_of_ble_eq_true rfl) (C_X5_anchorValue) ?_
  refine mJ_aload_n dX2_beginAlong_37 rfl ?_
  refine mJ_iload_n dX2_beginAlong_38 rfl ?_
  refine mJ_iload_n dX2_beginAlong_39 rfl ?_
  refine mJ_if_eq 47 dX2_beginAlong_40 rfl (fun c => absurd c (by decide)) (fun _ => ?_)
  refine mJ_iconst (v := 1) dX2_beginAlong_43 rfl ?_
  refine mJ_goto 48 dX2_beginAlong_44 rfl ?_
  refine mJ_cV2i dX2_beginAlong_48 e_X5_hintValue n_X2_9 ⟨Nat.le_of_ble_eq_true rfl, Nat.le_of_ble_eq_true rfl⟩ rfl rfl (Nat.le_of_ble_eq_true rfl) (C_X5_hintValue) ?_
  refine mJ_isub dX2_beginAlong_51 ?_
  refine mJ_istore dX2_beginAlong_52 (Nat.le_of_ble_eq_true rfl) (ls2 := [_, _, _, _, _, _]) rfl ?_
  refine mJ_aload_n dX2_beginAlong_54 rfl ?_
  refine mJ_iload_n dX2_beginAlong_55 rfl ?_
  refine mJ_iconst (v := 4) dX2_beginAlong_56 rfl ?_
  refine mJ_cV2i dX2_beginAlong_57 e_X5_hintValue n_X2_9 ⟨Nat.le_of_ble_eq_true rfl, Nat.le_of_ble_eq_true rfl⟩ rfl rfl (Nat.le_of_ble_eq_true rfl) (C_X5_hintValue) ?_
  refine mJ_case 0 (fun s_60_0 => ?_) (fun s_60_0 => ?_)
  · refine mJ_lsw (off := 28) 88 dX2_beginAlong_60 (by decide) (by decide) rfl ?_
    refine mJ_iload dX2_beginAlong_88 rfl ?_
    exact mJ_iret dX2_beginAlong_90 rfl (by simp [v_beg, *]) (rfl)
  refine mJ_case 1 (fun s_60_1 => ?_) (fun s_60_1 => ?_)
  · refine mJ_lsw (off := 31) 91 dX2_beginAlong_60 (by decide) (by decide) rfl ?_
    refine mJ_iload dX2_beginAlong_91 rfl ?_
    refine mJ_iload dX2_beginAlong_93 rfl ?_
    refine mJ_iconst (v := 2) dX2_beginAlong_95 rfl ?_
    refine mJ_cS2i dX2_beginAlong_96 e_J9_floorDiv_7cf53 n_X2_77 ⟨Nat.le_of_ble_eq_true rfl, Nat.le_of_ble_eq_true rfl⟩ (Nat.le_of_ble_eq_true rfl) (C_J9_floorDiv_7cf53) ?_
    refine mJ_iadd dX2_beginAlong_99 ?_
    exact mJ_iret dX2_beginAlong_100 rfl (by simp [v_beg, *]) (rfl)
  refine mJ_lsw (off := 41) 101 dX2_beginAlong_60 (by decide) (by show Op.lookupswitch.offset [(0, 28), (1, 31)] 41 _ = 41; rw [lv_osw (a := 0) s_60_0 rfl, lv_osw (a := 1) s_60_1 rfl]; rfl) rfl ?_
  refine mJ_iload dX2_beginAlong_101 rfl ?_
  refine mJ_iload dX2_beginAlong_103 rfl ?_
  refine mJ_iadd dX2_beginAlong_105 ?_
  exact mJ_iret dX2_beginAlong_106 rfl (by simp [v_beg, *]) (rfl)
set_option maxHeartbeats 4000000 in
set_option maxRecDepth 100000 in
theorem C_X2_middleAlong_1 {C : aF} {Hs : tH} {Sw : tS} {T1 : tT} {P1 : tP} {Od : tO} {T2 : tT} {P2 : tP} {h : Int32} : mCt k_X2_middleAlong [.ref 1, .int h, .int 1] (cH C Hs Sw T1 P1 Od T2 P2) (some (.int (v_mid C h 0 2))) (cH C Hs Sw T1 P1 Od T2 P2) := by
  refine mCt_intro (plainFor_of_name rfl) (Nat.le_of_ble_eq_true rfl) (m_all rfl) (ls := [_, _, _, _, _]) rfl ?_
  refine mJ_aload_n dX2_middleAlong_0 rfl ?_
  refine mJ_iload_n dX2_middleAlong_1 rfl ?_
  refine mJ_iconst (v := 0) dX2_middleAlong_2 rfl ?_
  refine mJ_cV2i dX2_middleAlong_3 e_X5_hintValue n_X2_9 ⟨Nat.le_of_ble_eq_true rfl, Nat.le_of_ble_eq_true rfl⟩ rfl rfl (Nat.le_of_ble_eq_true rfl) (C_X5_hintValue) ?_
  refine mJ_istore_n dX2_middleAlong_6 (Nat.le_of_ble_eq_true rfl) (ls2 := [_, _, _, _, _]) rfl ?_
  refine mJ_aload_n dX2_middleAlong_7 rfl ?_
  refine mJ_iload_n dX2_middleAlong_8 rfl ?_
  refine mJ_iload_n dX2_middleAlong_9 rfl ?_
  refine mJ_if_eq 17 dX2_middleAlong_10 rfl (fun c => absurd c (by decide)) (fun _ => ?_)
  refine mJ_iconst (v := 2) dX2_middleAlong_13 rfl ?_
  refine mJ_goto 18 dX2_middleAlong_14 rfl ?_
  refine mJ_cV2i dX2_middleAlong_18 e_X5_anchorValue n_X2_74 ⟨Nat.le_of_ble_eq_true rfl, Nat.le_of_ble_eq_true rfl⟩ rfl rfl (Nat.le_of_ble_eq_true rfl) (C_X5_anchorValue) ?_
  refine mJ_istore dX2_middleAlong_21 (Nat.le_of_ble_eq_true rfl) (ls2 := [_, _, _, _, _]) rfl ?_
  refine mJ_aload_n dX2_middleAlong_23 rfl ?_
  refine mJ_iload_n dX2_middleAlong_24 rfl ?_
  refine mJ_iload_n dX2_middleAlong_25 rfl ?_
  refine mJ_if_eq 33 dX2_middleAlong_26 rfl (fun c => absurd c (by decide)) (fun _ => ?_)
  refine mJ_iconst (v := 0) dX2_middleAlong_29 rfl ?_
  refine mJ_goto 34 dX2_middleAlong_30 rfl ?_
  refine mJ_cV2i dX2_middleAlong_34 e_X5_anchorValue n_X2_74 ⟨Nat.le_of_ble_eq_true rfl, Nat.le_of_ble_eq_true rfl⟩ rfl rfl (Nat.le_of_ble_eq_true rfl) (C_X5_anchorValue) ?_
  refine mJ_iload dX2_middleAlong_37 rfl ?_
  refine mJ_iconst (v := 2) dX2_middleAlong_39 rfl ?_
  refine mJ_cS2i dX2_middleAlong_40 e_J9_floorDiv_7cf53 n_X2_77 ⟨Nat.le_of_ble_eq_true rfl, Nat.le_of_ble_eq_true rfl⟩ (Nat.le_of_ble_eq_true rfl) (C_J9_floorDiv_7cf53) ?_
  refine mJ_iadd dX2_middleAlong_43 ?_
  exact mJ_iret dX2_middleAlong_44 rfl (rfl) (rfl)
set_option maxHeartbeats 4000000 in
set_option maxRecDepth 100000 in
theorem C_X2_beginAlong_0 {C : aF} {Hs : tH} {Sw : tS} {T1 : tT} {P1 : tP} {Od : tO} {T2 : tT} {P2 : tP} {h : Int32} : mCt k_X2_beginAlong [.ref 1, .int h, .int 0] (cH C Hs Sw T1 P1 Od T2 P2) (some (.int (v_beg C h 1 3 2))) (cH C Hs Sw T1 P1 Od T2 P2) := by
  refine mCt_intro (plainFor_of_name rfl) (Nat.le_of_ble_eq_true rfl) (m_all rfl) (ls := [_, _, _, _, _, _]) rfl ?_
  refine mJ_aload_n dX2_beginAlong_0 rfl ?_
  refine mJ_iload_n dX2_beginAlong_1 rfl ?_
  refine mJ_iconst (v := 0) dX2_beginAlong_2 rfl ?_
  refine mJ_cV2i dX2_beginAlong_3 e_X5_hintValue n_X2_9 ⟨Nat.le_of_ble_eq_true rfl, Nat.le_of_ble_eq_true rfl⟩ rfl rfl (Nat.le_of_ble_eq_true rfl) (C_X5_hintValue) ?_
  refine mJ_istore_n dX2_beginAlong_6 (Nat.le_of_ble_eq_true rfl) (ls2 := [_, _, _, _, _, _]) rfl ?_
  refine mJ_aload_n dX2_beginAlong_7 rfl ?_
  refine mJ_iload_n dX2_beginAlong_8 rfl ?_
  refine mJ_iload_n dX2_beginAlong_9 rfl ?_
  refine mJ_if_eq 17 dX2_beginAlong_10 rfl (fun _ => ?_) (fun c => absurd c (by decide))
  refine mJ_iconst (v := 1) dX2_beginAlong_17 rfl ?_
  refine mJ_cV2i dX2_beginAlong_18 e_X5_anchorValue n_X2_74 ⟨Nat.le_of_ble_eq_true rfl, Nat.le_of_ble_eq_true rfl⟩ rfl rfl (Nat.le_of_ble_eq_true rfl) (C_X5_anchorValue) ?_
  refine mJ_istore dX2_beginAlong_21 (Nat.le_of_ble_eq_true rfl) (ls2 := [_, _, _, _, _, _]) rfl ?_
  refine mJ_aload_n dX2_beginAlong_23 rfl ?_
  refine mJ_iload_n dX2_beginAlong_24 rfl ?_
  refine mJ_iload_n dX2_beginAlong_25 rfl ?_
  refine mJ_if_eq 33 dX2_beginAlong_26 rfl (fun _ => ?_) (fun c => absurd c (by decide))
  refine mJ_iconst (v := 3) dX2_beginAlong_33 rfl ?_
  refine mJ_cV2i dX2_beginAlong_34 e_X5_anchorValue n_X2_74 ⟨Nat.le_of_ble_eq_true rfl, Nat.le_of_ble_eq_true rfl⟩ rfl rfl (Nat.le_of_ble_eq_true rfl) (C_X5_anchorValue) ?_
  refine mJ_aload_n dX2_beginAlong_37 rfl ?_
  refine mJ_iload_n dX2_beginAlong_38 rfl ?_
  refine mJ_iload_n dX2_beginAlong_39 rfl ?_
  refine mJ_if_eq 47 dX2_beginAlong_40 rfl (fun _ => ?_) (fun c => absurd c (by decide))
  refine mJ_iconst (v := 2) dX2_beginAlong_47 rfl ?_
  refine mJ_cV2i dX2_beginAlong_48 e_X5_hintValue n_X2_9 ⟨Nat.le_of_ble_eq_true rfl, Nat.le_of_ble_eq_true rfl⟩ rfl rfl (Nat.le_of_ble_eq_true rfl) (C_X5_hintValue) ?_
  refine mJ_isub dX2_beginAlong_51 ?_
  refine mJ_istore dX2_beginAlong_52 (Nat.le_of_ble_eq_true rfl) (ls2 := [_, _, _, _, _, _]) rfl ?_
  refine mJ_aload_n dX2_beginAlong_54 rfl ?_
  refine mJ_iload_n dX2_beginAlong_55 rfl ?_
  refine mJ_iconst (v := 4) dX2_beginAlong_56 rfl ?_
  refine mJ_cV2i dX2_beginAlong_57 e_X5_hintValue n_X2_9 ⟨Nat.le_of_ble_eq_true rfl, Nat.le_of_ble_eq_true rfl⟩ rfl rfl (Nat.le_of_ble_eq_true rfl) (C_X5_hintValue) ?_
  refine mJ_case 0 (fun s_60_0 => ?_) (fun s_60_0 => ?_)
  · refine mJ_lsw (off := 28) 88 dX2_beginAlong_60 (by decide) (by decide) rfl ?_
    refine mJ_iload dX2_beginAlong_88 rfl ?_
    exact mJ_iret dX2_beginAlong_90 rfl (by simp [v_beg, *]) (rfl)
  refine mJ_case 1 (fun s_60_1 => ?_) (fun s_60_1 => ?_)
  · refine mJ_lsw (off := 31) 91 dX2_beginAlong_60 (by decide) (by decide) rfl ?_
    refine mJ_iload dX2_beginAlong_91 rfl ?_
    refine mJ_iload dX2_beginAlong_93 rfl ?_
    refine mJ_iconst (v := 2) dX2_beginAlong_95 rfl ?_
    refine mJ_cS2i dX2_beginAlong_96 e_J9_floorDiv_7cf53 n_X2_77 ⟨Nat.le_of_ble_eq_true rfl, Nat.le_of_ble_eq_true rfl⟩ (Nat.le_of_ble_eq_true rfl) (C_J9_floorDiv_7cf53) ?_
    refine mJ_iadd dX2_beginAlong_99 ?_
    exact mJ_iret dX2_beginAlong_100 rfl (by simp [v_beg, *]) (rfl)
  refine mJ_lsw (off := 41) 101 dX2_beginAlong_60 (by decide) (by show Op.lookupswitch.offset [(0, 28), (1, 31)] 41 _ = 41; rw [lv_osw (a := 0) s_60_0 rfl, lv_osw (a := 1) s_60_1 rfl]; rfl) rfl ?_
  refine mJ_iload dX2_beginAlong_101 rfl ?_
  refine mJ_iload dX2_beginAlong_103 rfl ?_
  refine mJ_iadd dX2_beginAlong_105 ?_
  exact mJ_iret dX2_beginAlong_106 rfl (by simp [v_beg, *]) (rfl)
set_option maxHeartbeats 4000000 in
set_option maxRecDepth 100000 in
theorem C_X2_middleAlong_0 {C : aF} {Hs : tH} {Sw : tS} {T1 : tT} {P1 : tP} {Od : tO} {T2 : tT} {P2 : tP} {h : Int32} : mCt k_X2_middleAlong [.ref 1, .int h, .int 0] (cH C Hs Sw T1 P1 Od T2 P2) (some (.int (v_mid C h 1 3))) (cH C Hs Sw T1 P1 Od T2 P2) := by
  refine mCt_intro (plainFor_of_name rfl) (Nat.le_of_ble_eq_true rfl) (m_all rfl) (ls := [_, _, _, _, _]) rfl ?_
  refine mJ_aload_n dX2_middleAlong_0 rfl ?_
  refine mJ_iload_n dX2_middleAlong_1 rfl ?_
  refine mJ_iconst (v := 0) dX2_middleAlong_2 rfl ?_
  refine mJ_cV2i dX2_middleAlong_3 e_X5_hintValue n_X2_9 ⟨Nat.le_of_ble_eq_true rfl, Nat.le_of_ble_eq_true rfl⟩ rfl rfl (Nat.le_of_ble_eq_true rfl) (C_X5_hintValue) ?_
  refine mJ_istore_n dX2_middleAlong_6 (Nat.le_of_ble_eq_true rfl) (ls2 := [_, _, _, _, _]) rfl ?_
  refine mJ_aload_n dX2_middleAlong_7 rfl ?_
  refine mJ_iload_n dX2_middleAlong_8 rfl ?_
  refine mJ_iload_n dX2_middleAlong_9 rfl ?_
  refine mJ_if_eq 17 dX2_middleAlong_10 rfl (fun _ => ?_) (fun c => absurd c (by decide))
  refine mJ_iconst (v := 3) dX2_middleAlong_17 rfl ?_
  refine mJ_cV2i dX2_middleAlong_18 e_X5_anchorValue n_X2_74 ⟨Nat.le_of_ble_eq_true rfl, Nat.le_of_ble_eq_true rfl⟩ rfl rfl (Nat.le_of_ble_eq_true rfl) (C_X5_anchorValue) ?_
  refine mJ_istore dX2_middleAlong_21 (Nat.le_of_ble_eq_true rfl) (ls2 := [_, _, _, _, _]) rfl ?_
  refine mJ_aload_n dX2_middleAlong_23 rfl ?_
  refine mJ_iload_n dX2_middleAlong_24 rfl ?_
  refine mJ_iload_n dX2_middleAlong_25 rfl ?_
  refine mJ_if_eq 33 dX2_middleAlong_26 rfl (fun _ => ?_) (fun c => absurd c (by decide))
  refine mJ_iconst (v := 1) dX2_middleAlong_33 rfl ?_
  refine mJ_cV2i dX2_middleAlong_34 e_X5_anchorValue n_X2_74 ⟨Nat.le_of_ble_eq_true rfl, Nat.le_of_ble_eq_true rfl⟩ rfl rfl (Nat.le_of_ble_eq_true rfl) (C_X5_anchorValue) ?_
  refine mJ_iload dX2_middleAlong_37 rfl ?_
  refine mJ_iconst (v := 2) dX2_middleAlong_39 rfl ?_
  refine mJ_cS2i dX2_middleAlong_40 e_J9_floorDiv_7cf53 n_X2_77 ⟨Nat.le_of_ble_eq_true rfl, Nat.le_of_ble_eq_true rfl⟩ (Nat.le_of_ble_eq_true rfl) (C_J9_floorDiv_7cf53) ?_
  refine mJ_iadd dX2_middleAlong_43 ?_
  exact mJ_iret dX2_middleAlong_44 rfl (rfl) (rfl)
set_option maxHeartbeats 4000000 in
set_option maxRecDepth 100000 in
theorem C_X2_shiftInto {C : aF} {Hs : tH} {Sw : tS} {T1 : tT} {P1 : tP} {Od : tO} {T2 : tT} {P2 : tP} {a b l m vb vl : Int32} : mCt k_X2_shiftInto [.int vb, .int vl, .int b, .int l, .int a, .int m] (cH C Hs Sw T1 P1 Od T2 P2) (some (.int (v_shi vb vl b l a m))) (cH C Hs Sw T1 P1 Od T2 P2) := by
  refine mCt_intro (plainFor_of_name rfl) (Nat.le_of_ble_eq_true rfl) (m_all rfl) (ls := [_, _, _, _, _, _, _, _]) rfl ?_
  refine mJ_iload_n dX2_shiftInto_0 rfl ?_
  refine mJ_iload_n dX2_shiftInto_1 rfl ?_
  refine mJ_icmp_le 7 dX2_shiftInto_2 rfl (fun c_2 => ?_) (fun c_2 => ?_)
  · refine mJ_iconst (v := 0) dX2_shiftInto_7 rfl ?_
    refine mJ_iload_n dX2_shiftInto_8 rfl ?_
    refine mJ_iload_n dX2_shiftInto_9 rfl ?_
    refine mJ_isub dX2_shiftInto_10 ?_
    refine mJ_cS2i dX2_shiftInto_11 e_J9_max_7cf53 n_X2_82 ⟨Nat.le_of_ble_eq_true rfl, Nat.le_of_ble_eq_true rfl⟩ (Nat.le_of_ble_eq_true rfl) (C_J9_max_7cf53) ?_
    refine mJ_istore dX2_shiftInto_14 (Nat.le_of_ble_eq_true rfl) (ls2 := [_, _, _, _, _, _, _, _]) rfl ?_
    refine mJ_iconst (v := 0) dX2_shiftInto_16 rfl ?_
    refine mJ_iload_n dX2_shiftInto_17 rfl ?_
    refine mJ_iload_n dX2_shiftInto_18 rfl ?_
    refine mJ_iadd dX2_shiftInto_19 ?_
    refine mJ_iload_n dX2_shiftInto_20 rfl ?_
    refine mJ_isub dX2_shiftInto_21 ?_
    refine mJ_iload_n dX2_shiftInto_22 rfl ?_
    refine mJ_isub dX2_shiftInto_23 ?_
    refine mJ_cS2i dX2_shiftInto_24 e_J9_max_7cf53 n_X2_82 ⟨Nat.le_of_ble_eq_true rfl, Nat.le_of_ble_eq_true rfl⟩ (Nat.le_of_ble_eq_true rfl) (C_J9_max_7cf53) ?_
    refine mJ_istore dX2_shiftInto_27 (Nat.le_of_ble_eq_true rfl) (ls2 := [_, _, _, _, _, _, _, _]) rfl ?_
    refine mJ_iload dX2_shiftInto_29 rfl ?_
    refine mJ_iload_n dX2_shiftInto_31 rfl ?_
    refine mJ_iload dX2_shiftInto_32 rfl ?_
    refine mJ_cS3i dX2_shiftInto_34 e_X2_isGood n_X2_46 ⟨Nat.le_of_ble_eq_true rfl, Nat.le_of_ble_eq_true rfl⟩ (Nat.le_of_ble_eq_true rfl) (C_X2_isGood) ?_
    refine mJ_b2i (fun b_34 => ?_) (fun b_34 => ?_)
    · refine mJ_if_eq 68 dX2_shiftInto_37 rfl (fun c => absurd c (by decide)) (fun _ => ?_)
      refine mJ_iload dX2_shiftInto_40 rfl ?_
      refine mJ_iload dX2_shiftInto_42 rfl ?_
      refine mJ_iload dX2_shiftInto_44 rfl ?_
      refine mJ_isub dX2_shiftInto_46 ?_
      refine mJ_cS2i dX2_shiftInto_47 e_J9_min_7cf53 n_X2_85 ⟨Nat.le_of_ble_eq_true rfl, Nat.le_of_ble_eq_true rfl⟩ (Nat.le_of_ble_eq_true rfl) (C_J9_min_7cf53) ?_
      refine mJ_istore dX2_shiftInto_50 (Nat.le_of_ble_eq_true rfl) (ls2 := [_, _, _, _, _, _, _, _]) rfl ?_
      refine mJ_iload dX2_shiftInto_52 rfl ?_
      refine mJ_iload_n dX2_shiftInto_54 rfl ?_
      refine mJ_iconst (v := 1) dX2_shiftInto_55 rfl ?_
      refine mJ_isub dX2_shiftInto_56 ?_
      refine mJ_iload dX2_shiftInto_57 rfl ?_
      refine mJ_isub dX2_shiftInto_59 ?_
      refine mJ_iload dX2_shiftInto_60 rfl ?_
      refine mJ_isub dX2_shiftInto_62 ?_
      refine mJ_cS2i dX2_shiftInto_63 e_J9_min_7cf53 n_X2_85 ⟨Nat.le_of_ble_eq_true rfl, Nat.le_of_ble_eq_true rfl⟩ (Nat.le_of_ble_eq_true rfl) (C_J9_min_7cf53) ?_
      refine mJ_istore dX2_shiftInto_66 (Nat.le_of_ble_eq_true rfl) (ls2 := [_, _, _, _, _, _, _, _]) rfl ?_
      refine mJ_iload dX2_shiftInto_68 rfl ?_
      refine mJ_iload dX2_shiftInto_70 rfl ?_
      refine mJ_isub dX2_shiftInto_72 ?_
      exact mJ_iret dX2_shiftInto_73 rfl (by simp [v_shi, iif_t, iif_f, *]) (rfl)
    · refine mJ_if_eq 68 dX2_shiftInto_37 rfl (fun _ => ?_) (fun c => absurd c (by decide))
      refine mJ_iload dX2_shiftInto_68 rfl ?_
      refine mJ_iload dX2_shiftInto_70 rfl ?_
      refine mJ_isub dX2_shiftInto_72 ?_
      exact mJ_iret dX2_shiftInto_73 rfl (by simp [v_shi, iif_t, iif_f, *]) (rfl)
  · refine mJ_iconst (v := 0) dX2_shiftInto_5 rfl ?_
    exact mJ_iret dX2_shiftInto_6 rfl (by simp [v_shi, iif_t, iif_f, *]) (rfl)
set_option maxHeartbeats 4000000 in
set_option maxRecDepth 100000 in
theorem C_X7_edgeBy {C : aF} {Hs : tH} {Sw : tS} {T1 : tT} {P1 : tP} {Od : tO} {T2 : tT} {P2 : tP} {a s : Int32} : mCt k_X7_edgeBy [.ref 1, .int a, .int s] (cH C Hs Sw T1 P1 Od T2 P2) (some (.int (v_edge C a s))) (cH C Hs Sw T1 P1 Od T2 P2) := by
  refine mCt_intro (plainFor_of_name rfl) (Nat.le_of_ble_eq_true rfl) (m_all rfl) (ls := [_, _, _, _, _, _]) rfl ?_
  refine mJ_iload_n dX7_edgeBy_0 rfl ?_
  refine mJ_cS1i dX7_edgeBy_1 e_X7_isLevel n_X7_175 ⟨Nat.le_of_ble_eq_true rfl, Nat.le_of_ble_eq_true rfl⟩ (Nat.le_of_ble_eq_true rfl) (C_X7_isLevel) ?_
  refine mJ_b2i (fun b_1 => ?_) (fun b_1 => ?_)
  · refine mJ_istore_n dX7_edgeBy_4 (Nat.le_of_ble_eq_true rfl) (ls2 := [_, _, _, _, _, _]) rfl ?_
    refine mJ_aload_n dX7_edgeBy_5 rfl ?_
    refine mJ_iload_n dX7_edgeBy_6 rfl ?_
    refine mJ_iload_n dX7_edgeBy_7 rfl ?_
    refine mJ_if_eq 15 dX7_edgeBy_8 rfl (fun c => absurd c (by decide)) (fun _ => ?_)
    refine mJ_iconst (v := 1) dX7_edgeBy_11 rfl ?_
    refine mJ_goto 16 dX7_edgeBy_12 rfl ?_
    refine mJ_cV2i dX7_edgeBy_16 e_X5_anchorValue n_X7_91 ⟨Nat.le_of_ble_eq_true rfl, Nat.le_of_ble_eq_true rfl⟩ rfl rfl (Nat.le_of_ble_eq_true rfl) (C_X5_anchorValue) ?_
    refine mJ_istore dX7_edgeBy_19 (Nat.le_of_ble_eq_true rfl) (ls2 := [_, _, _, _, _, _]) rfl ?_
    refine mJ_aload_n dX7_edgeBy_21 rfl ?_
    refine mJ_iconst (v := 0) dX7_edgeBy_22 rfl ?_
    refine mJ_cV1i dX7_edgeBy_23 e_X5_setting n_X7_108 ⟨Nat.le_of_ble_eq_true rfl, Nat.le_of_ble_eq_true rfl⟩ rfl rfl (Nat.le_of_ble_eq_true rfl) (C_X5_setting) ?_
    refine mJ_istore dX7_edgeBy_26 (Nat.le_of_ble_eq_true rfl) (ls2 := [_, _, _, _, _, _]) rfl ?_
    refine mJ_iload_n dX7_edgeBy_28 rfl ?_
    refine mJ_cS1i dX7_edgeBy_29 e_X7_isBefore n_X7_182 ⟨Nat.le_of_ble_eq_true rfl, Nat.le_of_ble_eq_true rfl⟩ (Nat.le_of_ble_eq_true rfl) (C_X7_isBefore) ?_
    refine mJ_b2i (fun b_29 => ?_) (fun b_29 => ?_)
    · refine mJ_if_eq 41 dX7_edgeBy_32 rfl (fun c => absurd c (by decide)) (fun _ => ?_)
      refine mJ_iload dX7_edgeBy_35 rfl ?_
      refine mJ_iload dX7_edgeBy_37 rfl ?_
      refine mJ_isub dX7_edgeBy_39 ?_
      exact mJ_iret dX7_edgeBy_40 rfl (by simp [v_edge, iif_t, iif_f, *]) (rfl)
    · refine mJ_if_eq 41 dX7_edgeBy_32 rfl (fun _ => ?_) (fun c => absurd c (by decide))
      refine mJ_iload dX7_edgeBy_41 rfl ?_
      refine mJ_aload_n dX7_edgeBy_43 rfl ?_
      refine mJ_iload_n dX7_edgeBy_44 rfl ?_
      refine mJ_iload_n dX7_edgeBy_45 rfl ?_
      refine mJ_if_eq 53 dX7_edgeBy_46 rfl (fun c => absurd c (by decide)) (fun _ => ?_)
      refine mJ_iconst (v := 3) dX7_edgeBy_49 rfl ?_
      refine mJ_goto 54 dX7_edgeBy_50 rfl ?_
      refine mJ_cV2i dX7_edgeBy_54 e_X5_anchorValue n_X7_91 ⟨Nat.le_of_ble_eq_true rfl, Nat.le_of_ble_eq_true rfl⟩ rfl rfl (Nat.le_of_ble_eq_true rfl) (C_X5_anchorValue) ?_
      refine mJ_iadd dX7_edgeBy_57 ?_
      refine mJ_iload dX7_edgeBy_58 rfl ?_
      refine mJ_iadd dX7_edgeBy_60 ?_
      exact mJ_iret dX7_edgeBy_61 rfl (by simp [v_edge, iif_t, iif_f, *]) (rfl)
  · refine mJ_istore_n dX7_edgeBy_4 (Nat.le_of_ble_eq_true rfl) (ls2 := [_, _, _, _, _, _]) rfl ?_
    refine mJ_aload_n dX7_edgeBy_5 rfl ?_
    refine mJ_iload_n dX7_edgeBy_6 rfl ?_
    refine mJ_iload_n dX7_edgeBy_7 rfl ?_
    refine mJ_if_eq 15 dX7_edgeBy_8 rfl (fun _ => ?_) (fun c => absurd c (by decide))
    refine mJ_iconst (v := 0) dX7_edgeBy_15 rfl ?_
    refine mJ_cV2i dX7_edgeBy_16 e_X5_anchorValue n_X7_91 ⟨Nat.le_of_ble_eq_true rfl, Nat.le_of_ble_eq_true rfl⟩ rfl rfl (Nat.le_of_ble_eq_true rfl) (C_X5_anchorValue) ?_
    refine mJ_istore dX7_edgeBy_19 (Nat.le_of_ble_eq_true rfl) (ls2 := [_, _, _, _, _, _]) rfl ?_
    refine mJ_aload_n dX7_edgeBy_21 rfl ?_
    refine mJ_iconst (v := 0) dX7_edgeBy_22 rfl ?_
    refine mJ_cV1i dX7_edgeBy_23 e_X5_setting n_X7_108 ⟨Nat.le_of_ble_eq_true rfl, Nat.le_of_ble_eq_true rfl⟩ rfl rfl (Nat.le_of_ble_eq_true rfl) (C_X5_setting) ?_
    refine mJ_istore dX7_edgeBy_26 (Nat.le_of_ble_eq_true rfl) (ls2 := [_, _, _, _, _, _]) rfl ?_
    refine mJ_iload_n dX7_edgeBy_28 rfl ?_
    refine mJ_cS1i dX7_edgeBy_29 e_X7_isBefore n_X7_182 ⟨Nat.le_of_ble_eq_true rfl, Nat.le_of_ble_eq_true rfl⟩ (Nat.le_of_ble_eq_true rfl) (C_X7_isBefore) ?_
    refine mJ_b2i (fun b_29 => ?_) (fun b_29 => ?_)
    · refine mJ_if_eq 41 dX7_edgeBy_32 rfl (fun c => absurd c (by decide)) (fun _ => ?_)
      refine mJ_iload dX7_edgeBy_35 rfl ?_
      refine mJ_iload dX7_edgeBy_37 rfl ?_
      refine mJ_isub dX7_edgeBy_39 ?_
      exact mJ_iret dX7_edgeBy_40 rfl (by simp [v_edge, iif_t, iif_f, *]) (rfl)
    · refine mJ_if_eq 41 dX7_edgeBy_32 rfl (fun _ => ?_) (fun c => absurd c (by decide))
      refine mJ_iload dX7_edgeBy_41 rfl ?_
      refine mJ_aload_n dX7_edgeBy_43 rfl ?_
      refine mJ_iload_n dX7_edgeBy_44 rfl ?_
      refine mJ_iload_n dX7_edgeBy_45 rfl ?_
      refine mJ_if_eq 53 dX7_edgeBy_46 rfl (fun _ => ?_) (fun c => absurd c (by decide))
      refine mJ_iconst (v := 2) dX7_edgeBy_53 rfl ?_
      refine mJ_cV2i dX7_edgeBy_54 e_X5_anchorValue n_X7_91 ⟨Nat.le_of_ble_eq_true rfl, Nat.le_of_ble_eq_true rfl⟩ rfl rfl (Nat.le_of_ble_eq_true rfl) (C_X5_anchorValue) ?_
      refine mJ_iadd dX7_edgeBy_57 ?_
      refine mJ_iload dX7_edgeBy_58 rfl ?_
      refine mJ_iadd dX7_edgeBy_60 ?_
      exact mJ_iret dX7_edgeBy_61 rfl (by simp [v_edge, iif_t, iif_f, *]) (rfl)
