/-! WHAT A ROW MEANS: counts, openings, history -/
def sW (W : aF) (k : Nat) : aF := fun j => if j < k then W (j + 172) else W j
theorem sW_0 (W : aF) : sW W 0 = W := by
  funext j
  unfold sW
  rw [if_neg (by omega)]
theorem sW_s (W : aF) (k : Nat) : upd (sW W k) k (sW W k (k + 172)) = sW W (k + 1) := by
  funext j
  unfold upd
  by_cases h : j = k
  · subst h
    rw [if_pos rfl]
    unfold sW
    rw [if_neg (by omega), if_pos (by omega)]
  · rw [if_neg h]
    unfold sW
    by_cases h2 : j < k
    · rw [if_pos h2, if_pos (by omega)]
    · rw [if_neg h2, if_neg (by omega)]
theorem wW_s (W C : aF) (b k : Nat) : upd (wW W C b k) (b + k) (C k) = wW W C b (k + 1) := by
  funext j
  unfold upd
  by_cases h : j = b + k
  · subst h
    rw [if_pos rfl]
    unfold wW
    rw [if_pos (by omega), Nat.add_sub_cancel_left]
  · rw [if_neg h]
    unfold wW
    by_cases h2 : b ≤ j ∧ j < b + k
    · rw [if_pos h2, if_pos (by omega)]
    · rw [if_neg h2, if_neg (by omega)]
theorem wC_s (C W : aF) (b k : Nat) : upd (wC C W b k) k (W (b + k)) = wC C W b (k + 1) := by
  funext j
  unfold upd
  by_cases h : j = k
  · subst h
    rw [if_pos rfl]
    unfold wC
    rw [if_pos (by omega)]
  · rw [if_neg h]
    unfold wC
    by_cases h2 : j < k
    · rw [if_pos h2, if_pos (by omega)]
    · rw [if_neg h2, if_neg (by omega)]
def mR (was d : aF) (n : Nat) : aF := if n = 5 then wW (sW was 688) d 688 172 else wW was d (172 * n) 172
def mN (n : Nat) : Nat := if n = 5 then 5 else n + 1
def q_cs (d : aF) (x y : Int32) : Prop := q_rg (d 0 + x) (-2000) 2000 ∧ q_rg (d 1 + y) (-2000) 2000
def q_st (w v : Int32) : Prop := (w = 0 ∧ q_rg v 0 30) ∨ (w = 1 ∧ q_rg v 0 20) ∨ (w = 2 ∧ q_rg v 1 6) ∨ (w = 3 ∧ q_rg v 0 1) ∨ (w = 4 ∧ q_rg v 0 1)
def q_of (d : aF) (w v : Int32) : Prop := (w = 0 ∧ q_rg v 0 (d 9 - 1)) ∨ (w = 1 ∧ q_rg v 1 200) ∨ (w = 2 ∧ q_rg v 1 200) ∨ (w = 3 ∧ q_rg v 0 3) ∨ (w = 4 ∧ q_rg v 0 2) ∨ (w = 5 ∧ q_rg v 0 2) ∨ (w = 6 ∧ q_rg v 0 1) ∨ (w = 7 ∧ q_rg v 0 9)
noncomputable def cP (P : Nat → Prop) : Nat → Int32
  | 0 => 0
  | k + 1 => iif (P k) (cP P k + 1) (cP P k)
noncomputable def cS (P : Nat → Prop) (f : Nat → Int32) : Nat → Int32
  | 0 => 0
  | k + 1 => iif (P k) (cS P f k + f k) (cS P f k)
theorem cP_congr {P Q : Nat → Prop} : ∀ {n : Nat}, (∀ k, k < n → (P k ↔ Q k)) → cP P n = cP Q n
  | 0, _ => rfl
  | n + 1, h => by
    show iif (P n) _ _ = iif (Q n) _ _
    rw [cP_congr (fun k hk => h k (by omega)), propext (h n (by omega))]
theorem cS_congr {P Q : Nat → Prop} {f g : Nat → Int32} : ∀ {n : Nat}, (∀ k, k < n → (P k ↔ Q k)) → (∀ k, k < n → f k = g k) → cS P f n = cS Q g n
  | 0, _, _ => rfl
  | n + 1, h, h2 => by
    show iif (P n) _ _ = iif (Q n) _ _
    rw [cS_congr (fun k hk => h k (by omega)) (fun k hk => h2 k (by omega)), propext (h n (by omega)), h2 n (by omega)]
/-- the place of a hint among the first k opened, or -1 -/
def pO (d : aF) (v : Int32) : Nat → Nat → Int32
  | 0, _ => -1
  | m + 1, k => if d (148 + k) = v then nI k else pO d v m (k + 1)
/-- the opened row from place p on moved up by one, k places done -/
def shO (d : aF) (p k : Nat) : aF := fun j => if 148 + p ≤ j ∧ j < 148 + p + k then d (j + 1) else d j
theorem shO_0 (d : aF) (p : Nat) : shO d p 0 = d := by
  funext j
  unfold shO
  rw [if_neg (by omega)]
theorem shO_s (d : aF) (p k : Nat) : upd (shO d p k) (148 + (p + k)) (shO d p k (148 + (p + k) + 1)) = shO d p (k + 1) := by
  funext j
  unfold upd
  by_cases h : j = 148 + (p + k)
  · subst h
    rw [if_pos rfl]
    unfold shO
    rw [if_neg (by omega), if_pos (by omega)]
  · rw [if_neg h]
    unfold shO
    by_cases h2 : 148 + p ≤ j ∧ j < 148 + p + k
    · rw [if_pos h2, if_pos (by omega)]
    · rw [if_neg h2, if_neg (by omega)]
theorem nI_neg1 {k : Nat} (h : k < 2 ^ 31) : ¬ nI k = -1 := fun e => nI_pos h (by rw [e]; decide)
/-- the remembered sides of the first k hints taken from son -/
noncomputable def rmb (d son : aF) : Nat → aF
  | 0 => d
  | k + 1 => iif (son k = -1) (rmb d son k) (upd (rmb d son k) (160 + k) (son k))
theorem rmb_ne {d son : aF} : ∀ {k j : Nat}, (j < 160 ∨ 160 + k ≤ j) → rmb d son k j = d j
  | 0, _, _ => rfl
  | k + 1, j, h => by
    unfold rmb
    by_cases q : son k = -1
    · rw [iif_t q]; exact rmb_ne (by omega)
    · rw [iif_f q, upd_ne (by omega)]; exact rmb_ne (by omega)
theorem rmb_at {d son : aF} : ∀ {k j : Nat}, j < k → rmb d son k (160 + j) = iif (son j = -1) (d (160 + j)) (son j)
  | k + 1, j, h => by
    unfold rmb
    by_cases e : j = k
    · subst e
      by_cases q : son j = -1
      · rw [iif_t q, iif_t q]; exact rmb_ne (by omega)
      · rw [iif_f q, iif_f q]; exact upd_at _ _ _
    · by_cases q : son k = -1
      · rw [iif_t q]; exact rmb_at (by omega)
      · rw [iif_f q, upd_ne (by omega)]; exact rmb_at (by omega)
theorem rmb_congr {d son son' : aF} : ∀ {k : Nat}, (∀ j, j < k → son j = son' j) → rmb d son k = rmb d son' k
  | 0, _ => rfl
  | k + 1, h => by
    unfold rmb
    rw [rmb_congr (fun j hj => h j (by omega)), h k (by omega)]
def m_room (d : aF) (a s : Nat) : Int32 := if s = 0 then dA d a 1 - d 4 - d 1 else if s = 1 then d 0 + d 2 - dA d a 0 - dA d a 2 - d 4 else if s = 2 then d 1 + d 3 - dA d a 1 - dA d a 3 - d 4 else dA d a 0 - d 4 - d 0
def iO (h : Nat) : List Nat → Nat → Int32
  | [], _ => -10004
  | x :: L, k => if x = h then nI k else iO h L (k + 1)
/-- the first shown hint from k on that has the point -/
noncomputable def aT (d on : aF) (x y : Int32) : Nat → Nat → Int32
  | 0, _ => -10004
  | m + 1, k => iif (¬ on k = -1 ∧ q_mt x y 1 1 (p_x d k (on k)) (p_y d k (on k)) (dH d k 1) (dH d k 2)) (nI k) (aT d on x y m (k + 1))
theorem aT_congr {d on on' : aF} {x y : Int32} : ∀ {m k : Nat}, (∀ j, j < k + m → on j = on' j) → aT d on x y m k = aT d on' x y m k
  | 0, _, _ => rfl
  | m + 1, k, h => by
    unfold aT
    rw [h k (by omega), aT_congr (m := m) (k := k + 1) (fun j hj => h j (by omega))]
/-- is a hint in sight on one of the sides, with size v at place w of the view -/
def sI (d : aF) (h w : Nat) (v : Int32) (L : List Int32) : Prop := ∃ s ∈ L, p_in (upd d (2 + w) v) h s
noncomputable def sF (d : aF) (h w : Nat) (L : List Int32) : Nat → Nat → Int32
  | 0, _ => -10004
  | m + 1, k => iif (sI d h w (nI k) L) (nI k) (sF d h w L m (k + 1))
theorem nI_neg1b {k : Nat} (h : k < 2 ^ 31) : ¬ nI k = -10004 := fun e => nI_pos h (by rw [e]; decide)
