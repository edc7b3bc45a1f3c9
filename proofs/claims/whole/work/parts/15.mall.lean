/-! THE REFERENCE: the first side for a hint; the order; all hints -/
theorem upd_same {f : aF} {k : Nat} {v : Int32} (h : f k = v) : upd f k v = f := by
  funext j
  unfold upd
  split
  · rename_i e; rw [e, h]
  · rfl
theorem upd_upd (f : aF) (k : Nat) (v w : Int32) : upd (upd f k v) k w = upd f k w := by
  funext j
  unfold upd
  split <;> rfl
theorem upd_at (f : aF) (k : Nat) (v : Int32) : upd f k v k = v := by unfold upd; exact if_pos rfl
theorem upd_ne {f : aF} {k j : Nat} {v : Int32} (h : j ≠ k) : upd f k v j = f j := by unfold upd; exact if_neg h
def pr (d : aF) (h : Nat) : Int32 := dH d h 7
/-- a hint put into the order, the order's end first -/
def insR (d : aF) (h : Nat) : List Nat → List Nat
  | [] => [h]
  | x :: R => if pr d h ≤ pr d x then h :: x :: R else x :: insR d h R
def op (d : aF) (j : Nat) : Nat := (d (148 + j)).toNatClampNeg
def ordR (d : aF) : Nat → List Nat
  | 0 => []
  | k + 1 => insR d (op d k) (ordR d k)
def ordL (d : aF) (nO : Nat) : List Nat := (ordR d nO).reverse
def oF (f : aF) (L : List Nat) : Prop := ∀ (i v : Nat), L[i]? = some v → f i = nI v
theorem insR_len (d : aF) (h : Nat) : ∀ R, (insR d h R).length = R.length + 1
  | [] => rfl
  | x :: R => by
    unfold insR
    split
    · rfl
    · simp [insR_len d h R]
theorem ordR_len (d : aF) : ∀ k, (ordR d k).length = k
  | 0 => rfl
  | k + 1 => by rw [ordR, insR_len, ordR_len d k]
theorem insR_mem (d : aF) (h : Nat) : ∀ R x, x ∈ insR d h R ↔ (x = h ∨ x ∈ R)
  | [], x => by simp [insR]
  | y :: R, x => by
    unfold insR
    split
    · simp
    · simp only [List.mem_cons, insR_mem d h R x]
      constructor
      · rintro (q | q | q) <;> simp [q]
      · rintro (q | q | q) <;> simp [q]
theorem ordR_mem (d : aF) : ∀ k x, x ∈ ordR d k ↔ ∃ j, j < k ∧ x = op d j
  | 0, x => by simp [ordR]
  | k + 1, x => by
    rw [ordR, insR_mem, ordR_mem d k x]
    constructor
    · rintro (q | ⟨j, hj, q⟩)
      · exact ⟨k, by omega, q⟩
      · exact ⟨j, by omega, q⟩
    · rintro ⟨j, hj, q⟩
      by_cases e : j = k
      · subst e; exact Or.inl q
      · exact Or.inr ⟨j, by omega, q⟩
noncomputable def p_step (d : aF) (nA nH : Nat) (S : aF × aF × Int32) (h : Nat) : aF × aF × Int32 :=
  iif (q_sn d (p_an d h)) (if S.2.2 < d 6 then (upd S.1 h (p_try d S.2.1 nA nH h (tryL d h) 3).1, upd S.2.1 h (p_try d S.2.1 nA nH h (tryL d h) 3).2, if (p_try d S.2.1 nA nH h (tryL d h) 3).2 = -1 then S.2.2 else S.2.2 + 1) else (upd S.1 h 5, S.2.1, S.2.2)) (upd S.1 h 2, S.2.1, S.2.2)
noncomputable def p_run (d : aF) (nA nH : Nat) (S : aF × aF × Int32) (L : List Nat) : aF × aF × Int32 := L.foldl (p_step d nA nH) S
theorem p_try_sd (d on : aF) (nA nH h : Nat) : ∀ (L : List Int32) (r : Int32), (∀ s ∈ L, sd s) → (p_try d on nA nH h L r).2 = -1 ∨ sd (p_try d on nA nH h L r).2
  | [], r, _ => Or.inl rfl
  | s :: L, r, hL => by
    unfold p_try
    by_cases h1 : p_in d h s
    · rw [iif_t h1]
      by_cases h2 : oB d on nA nH (p_x d h s) (p_y d h s) (dH d h 1) (dH d h 2)
      · rw [iif_t h2]; exact p_try_sd d on nA nH h L 4 (fun x hx => hL x (List.mem_cons_of_mem _ hx))
      · rw [iif_f h2]; exact Or.inr (hL s List.mem_cons_self)
    · rw [iif_f h1]; exact p_try_sd d on nA nH h L r (fun x hx => hL x (List.mem_cons_of_mem _ hx))
set_option maxHeartbeats 4000000 in
set_option maxRecDepth 100000 in
theorem L_X8_finds_end {d was text ord why son tri : aF} {sta typ at_ sig fst snd rea lef top shf arr goo shn trs : Int32} {h : Nat} (hh : h < 12) (hs : ¬ son h = -1) {k : Int32} {x3 : Value} : mJ k_X8_finds 14 [.ref 0, .int (nI h), .int k, x3] [] (mH d was sta text typ at_ sig fst snd rea lef top shf arr goo ord why son shn tri trs) none (mH d was sta text typ at_ sig fst snd rea lef top shf arr goo ord why son shn tri trs) := by
  refine mJ_iload_n dX8_finds_14 rfl ?_
  refine mJ_aload_n dX8_finds_15 rfl ?_
  refine mJ_get dX8_finds_16 f_X8_83 rfl rfl ?_
  refine mJ_icmp_ge 93 dX8_finds_19 rfl (fun c_19 => ?_) (fun c_19 => ?_)
  · exact mJ_vret dX8_finds_93 rfl (rfl) (rfl)
  · refine mJ_aload_n dX8_finds_22 rfl ?_
    refine mJ_get dX8_finds_23 f_X8_26 rfl rfl ?_
    refine mJ_iload_n dX8_finds_26 rfl ?_
    refine mJ_ialdN dX8_finds_27 rfl (j := h) ⟨rfl, by omega, by omega⟩ ?_
    refine mJ_iconst (v := (-1)) dX8_finds_28 rfl ?_
    refine mJ_icmp_ne 93 dX8_finds_29 rfl (fun c_29 => ?_) (fun c_29 => False.elim (by exact hs c_29))
    exact mJ_vret dX8_finds_93 rfl (rfl) (rfl)
set_option maxHeartbeats 4000000 in
set_option maxRecDepth 100000 in
theorem L_X8_finds {d was text ord why son tri : aF} {sta typ at_ sig fst snd rea shn trs : Int32} {nA nH nO : Nat} (hw : wD d nA nH nO) {h : Nat} (hh : h < nH) (hs : son h = -1) (hon : ∀ o, o < nH → son o = -1 ∨ sd (son o)) {L : List Int32} (hT : tU (tri, trs) L) (hL : ∀ s ∈ L, sd s) : ∀ (m k : Nat) (r : Int32) (x3 : Value) (lef top shf arr goo : Int32), k + m = L.length → ∃ lef' top' shf' arr' goo' : Int32, mJ k_X8_finds 14 [.ref 0, .int (nI h), .int (nI k), x3] [] (mH d was sta text typ at_ sig fst snd rea lef top shf arr goo ord (upd why h r) son shn tri trs) none (mH d was sta text typ at_ sig fst snd rea (lef') (top') (shf') (arr') (goo') ord (upd why h (p_try d son nA nH h (L.drop k) r).1) (upd son h (p_try d son nA nH h (L.drop k) r).2) shn tri trs) := by
  obtain ⟨w1, w2, w3, w4, w5, w6, w7, w8, w9, w10⟩ := id hw
  obtain ⟨a, ha1, ha2⟩ := w7 h hh
  have ht : trs = nI L.length := hT.1
  have hT5 := hT.2.1
  intro m
  induction m with
  | zero =>
    intro k r x3 lef top shf arr goo hk
    have hd : L.drop k = [] := List.drop_eq_nil_of_le (by omega)
    refine ⟨lef, top, shf, arr, goo, ?_⟩
    rw [hd, show p_try d son nA nH h [] r = (r, -1) from rfl, show upd son h (r, -1).2 = son from upd_same hs]
    refine mJ_iload_n dX8_finds_14 rfl ?_
    refine mJ_aload_n dX8_finds_15 rfl ?_
    refine mJ_get dX8_finds_16 f_X8_83 rfl rfl ?_
    refine mJ_icmp_ge 93 dX8_finds_19 rfl (fun c_19 => ?_) (fun c_19 => False.elim (by exact c_19 (by rw [ht, show k = L.length by omega]; exact Int32.le_refl _)))
    exact mJ_vret dX8_finds_93 rfl (rfl) (rfl)
  | succ m ih =>
    intro k r x3 lef top shf arr goo hk0
    have hk : k < L.length := by omega
    obtain ⟨s, hs1⟩ : ∃ s, L[k]? = some s := ⟨_, List.getElem?_eq_getElem hk⟩
    have hss : sd s := hL s (List.mem_of_getElem? hs1)
    have htk : tri k = s := hT.2.2 k s hs1
    have hd : L.drop k = s :: L.drop (k + 1) := by
      rw [List.drop_eq_getElem_cons hk]
      congr 1
      exact (List.getElem?_eq_some_iff.mp hs1).2
    rw [hd]
    by_cases g1 : p_in d h s
    · obtain ⟨l0, t0, s0, a0, o0, hbar⟩ := C_X8_isBarred (was := was) (sta := sta) (text := text) (typ := typ) (at_ := at_) (sig := sig) (fst := fst) (snd := snd) (rea := rea) (lef := p_x d h s) (top := p_y d h s) (shf := p_sh d h s) (arr := p_ar d h s) (goo := b2i (p_gd d h s)) (ord := ord) (why := upd why h r) (shn := shn) (tri := tri) (trs := trs) hw hon (h := h) (by omega)
      by_cases g2 : oB d son nA nH (p_x d h s) (p_y d h s) (dH d h 1) (dH d h 2)
      · obtain ⟨l1, t1, s1, a1, o1, hj⟩ := ih (k + 1) 4 (.int 1) l0 t0 s0 a0 o0 (by omega)
        rw [show p_try d son nA nH h (s :: L.drop (k + 1)) r = p_try d son nA nH h (L.drop (k + 1)) 4 from (iif_t g1).trans (iif_t g2)]
        refine ⟨l1, t1, s1, a1, o1, ?_⟩
        refine mJ_iload_n dX8_finds_14 rfl ?_
        refine mJ_aload_n dX8_finds_15 rfl ?_
        refine mJ_get dX8_finds_16 f_X8_83 rfl rfl ?_
        refine mJ_icmp_ge 93 dX8_finds_19 rfl (fun c_19 => False.elim (by rw [ht] at c_19; exact nI_ge hk (by omega) c_19)) (fun c_19 => ?_)
        refine mJ_aload_n dX8_finds_22 rfl ?_
        refine mJ_get dX8_finds_23 f_X8_26 rfl rfl ?_
        refine mJ_iload_n dX8_finds_26 rfl ?_
        refine mJ_ialdN dX8_finds_27 rfl (j := h) ⟨rfl, by omega, by omega⟩ ?_
        refine mJ_iconst (v := (-1)) dX8_finds_28 rfl ?_
        refine mJ_icmp_ne 93 dX8_finds_29 rfl (fun c_29 => False.elim (by exact c_29 hs)) (fun c_29 => ?_)
        refine mJ_aload_n dX8_finds_32 rfl ?_
        refine mJ_iload_n dX8_finds_33 rfl ?_
        refine mJ_aload_n dX8_finds_34 rfl ?_
        refine mJ_get dX8_finds_35 f_X8_29 rfl rfl ?_
        refine mJ_iload_n dX8_finds_38 rfl ?_
        refine mJ_ialdN dX8_finds_39 rfl (j := k) ⟨rfl, by omega, by omega⟩ ?_
        refine mJ_top htk ?_
        refine mJ_cV2i dX8_finds_40 e_X8_isIn n_X8_93 ⟨Nat.le_of_ble_eq_true rfl, Nat.le_of_ble_eq_true rfl⟩ rfl rfl (Nat.le_of_ble_eq_true rfl) (C_X8_isIn hss (show h < 12 by omega) ha2 (by omega)) ?_
        refine mJ_top (b2i_t g1) ?_
        refine mJ_if_eq 87 dX8_finds_43 rfl (fun c => absurd c (by decide)) (fun _ => ?_)
        refine mJ_aload_n dX8_finds_46 rfl ?_
        refine mJ_iload_n dX8_finds_47 rfl ?_
        refine mJ_cV1i dX8_finds_48 e_X8_isBarred n_X8_96 ⟨Nat.le_of_ble_eq_true rfl, Nat.le_of_ble_eq_true rfl⟩ rfl rfl (Nat.le_of_ble_eq_true rfl) (hbar) ?_
        refine mJ_top (b2i_t g2) ?_
        refine mJ_istore_n dX8_finds_51 (Nat.le_of_ble_eq_true rfl) (ls2 := [_, _, _, _]) rfl ?_
        refine mJ_aload_n dX8_finds_52 rfl ?_
        refine mJ_get dX8_finds_53 f_X8_23 rfl rfl ?_
        refine mJ_iload_n dX8_finds_56 rfl ?_
        refine mJ_iload_n dX8_finds_57 rfl ?_
        refine mJ_if_eq 65 dX8_finds_58 rfl (fun c => absurd c (by decide)) (fun _ => ?_)
        refine mJ_iconst (v := 4) dX8_finds_61 rfl ?_
        refine mJ_goto 66 dX8_finds_62 rfl ?_
        refine mJ_iastN dX8_finds_66 rfl (j := h) ⟨rfl, by omega, by omega⟩ (h2 := mH _ _ _ _ _ _ _ _ _ _ _ _ _ _ _ _ _ _ _ _ _) rfl ?_
        refine mJ_aload_n dX8_finds_67 rfl ?_
        refine mJ_get dX8_finds_68 f_X8_26 rfl rfl ?_
        refine mJ_iload_n dX8_finds_71 rfl ?_
        refine mJ_iload_n dX8_finds_72 rfl ?_
        refine mJ_if_eq 80 dX8_finds_73 rfl (fun c => absurd c (by decide)) (fun _ => ?_)
        refine mJ_iconst (v := (-1)) dX8_finds_76 rfl ?_
        refine mJ_goto 86 dX8_finds_77 rfl ?_
        refine mJ_iastN dX8_finds_86 rfl (j := h) ⟨rfl, by omega, by omega⟩ (h2 := mH _ _ _ _ _ _ _ _ _ _ _ _ _ _ _ _ _ _ _ _ _) rfl ?_
        refine mJ_iinc dX8_finds_87 rfl (Nat.le_of_ble_eq_true rfl) (v := nI (k + 1)) (nI_1 k) (ls2 := [_, _, _, _]) rfl ?_
        refine mJ_goto 14 dX8_finds_90 rfl ?_
        rw [upd_upd, upd_same (f := son) hs]
        exact hj
      · rw [show p_try d son nA nH h (s :: L.drop (k + 1)) r = (0, s) from (iif_t g1).trans (iif_f g2)]
        refine ⟨l0, t0, s0, a0, o0, ?_⟩
        refine mJ_iload_n dX8_finds_14 rfl ?_
        refine mJ_aload_n dX8_finds_15 rfl ?_
        refine mJ_get dX8_finds_16 f_X8_83 rfl rfl ?_
        refine mJ_icmp_ge 93 dX8_finds_19 rfl (fun c_19 => False.elim (by rw [ht] at c_19; exact nI_ge hk (by omega) c_19)) (fun c_19 => ?_)
        refine mJ_aload_n dX8_finds_22 rfl ?_
        refine mJ_get dX8_finds_23 f_X8_26 rfl rfl ?_
        refine mJ_iload_n dX8_finds_26 rfl ?_
        refine mJ_ialdN dX8_finds_27 rfl (j := h) ⟨rfl, by omega, by omega⟩ ?_
        refine mJ_iconst (v := (-1)) dX8_finds_28 rfl ?_
        refine mJ_icmp_ne 93 dX8_finds_29 rfl (fun c_29 => False.elim (by exact c_29 hs)) (fun c_29 => ?_)
        refine mJ_aload_n dX8_finds_32 rfl ?_
        refine mJ_iload_n dX8_finds_33 rfl ?_
        refine mJ_aload_n dX8_finds_34 rfl ?_
        refine mJ_get dX8_finds_35 f_X8_29 rfl rfl ?_
        refine mJ_iload_n dX8_finds_38 rfl ?_
        refine mJ_ialdN dX8_finds_39 rfl (j := k) ⟨rfl, by omega, by omega⟩ ?_
        refine mJ_top htk ?_
        refine mJ_cV2i dX8_finds_40 e_X8_isIn n_X8_93 ⟨Nat.le_of_ble_eq_true rfl, Nat.le_of_ble_eq_true rfl⟩ rfl rfl (Nat.le_of_ble_eq_true rfl) (C_X8_isIn hss (show h < 12 by omega) ha2 (by omega)) ?_
        refine mJ_top (b2i_t g1) ?_
        refine mJ_if_eq 87 dX8_finds_43 rfl (fun c => absurd c (by decide)) (fun _ => ?_)
        refine mJ_aload_n dX8_finds_46 rfl ?_
        refine mJ_iload_n dX8_finds_47 rfl ?_
        refine mJ_cV1i dX8_finds_48 e_X8_isBarred n_X8_96 ⟨Nat.le_of_ble_eq_true rfl, Nat.le_of_ble_eq_true rfl⟩ rfl rfl (Nat.le_of_ble_eq_true rfl) (hbar) ?_
        refine mJ_top (b2i_f g2) ?_
        refine mJ_istore_n dX8_finds_51 (Nat.le_of_ble_eq_true rfl) (ls2 := [_, _, _, _]) rfl ?_
        refine mJ_aload_n dX8_finds_52 rfl ?_
        refine mJ_get dX8_finds_53 f_X8_23 rfl rfl ?_
        refine mJ_iload_n dX8_finds_56 rfl ?_
        refine mJ_iload_n dX8_finds_57 rfl ?_
        refine mJ_if_eq 65 dX8_finds_58 rfl (fun _ => ?_) (fun c => absurd c (by decide))
        refine mJ_iconst (v := 0) dX8_finds_65 rfl ?_
        refine mJ_iastN dX8_finds_66 rfl (j := h) ⟨rfl, by omega, by omega⟩ (h2 := mH _ _ _ _ _ _ _ _ _ _ _ _ _ _ _ _ _ _ _ _ _) rfl ?_
        refine mJ_aload_n dX8_finds_67 rfl ?_
        refine mJ_get dX8_finds_68 f_X8_26 rfl rfl ?_
        refine mJ_iload_n dX8_finds_71 rfl ?_
        refine mJ_iload_n dX8_finds_72 rfl ?_
        refine mJ_if_eq 80 dX8_finds_73 rfl (fun _ => ?_) (fun c => absurd c (by decide))
        refine mJ_aload_n dX8_finds_80 rfl ?_
        refine mJ_get dX8_finds_81 f_X8_29 rfl rfl ?_
        refine mJ_iload_n dX8_finds_84 rfl ?_
        refine mJ_ialdN dX8_finds_85 rfl (j := k) ⟨rfl, by omega, by omega⟩ ?_
        refine mJ_top htk ?_
        refine mJ_iastN dX8_finds_86 rfl (j := h) ⟨rfl, by omega, by omega⟩ (h2 := mH _ _ _ _ _ _ _ _ _ _ _ _ _ _ _ _ _ _ _ _ _) rfl ?_
        refine mJ_iinc dX8_finds_87 rfl (Nat.le_of_ble_eq_true rfl) rfl (ls2 := [_, _, _, _]) rfl ?_
        refine mJ_goto 14 dX8_finds_90 rfl ?_
        rw [upd_upd]
        exact L_X8_finds_end (show h < 12 by omega) (by rw [upd_at]; exact sd_ne hss)
    · obtain ⟨l1, t1, s1, a1, o1, hj⟩ := ih (k + 1) r x3 (p_x d h s) (p_y d h s) (p_sh d h s) (p_ar d h s) (b2i (p_gd d h s)) (by omega)
      rw [show p_try d son nA nH h (s :: L.drop (k + 1)) r = p_try d son nA nH h (L.drop (k + 1)) r from iif_f g1]
      refine ⟨l1, t1, s1, a1, o1, ?_⟩
      refine mJ_iload_n dX8_finds_14 rfl ?_
      refine mJ_aload_n dX8_finds_15 rfl ?_
      refine mJ_get dX8_finds_16 f_X8_83 rfl rfl ?_
      refine mJ_icmp_ge 93 dX8_finds_19 rfl (fun c_19 => False.elim (by rw [ht] at c_19; exact nI_ge hk (by omega) c_19)) (fun c_19 => ?_)
      refine mJ_aload_n dX8_finds_22 rfl ?_
      refine mJ_get dX8_finds_23 f_X8_26 rfl rfl ?_
      refine mJ_iload_n dX8_finds_26 rfl ?_
      refine mJ_ialdN dX8_finds_27 rfl (j := h) ⟨rfl, by omega, by omega⟩ ?_
      refine mJ_iconst (v := (-1)) dX8_finds_28 rfl ?_
      refine mJ_icmp_ne 93 dX8_finds_29 rfl (fun c_29 => False.elim (by exact c_29 hs)) (fun c_29 => ?_)
      refine mJ_aload_n dX8_finds_32 rfl ?_
      refine mJ_iload_n dX8_finds_33 rfl ?_
      refine mJ_aload_n dX8_finds_34 rfl ?_
      refine mJ_get dX8_finds_35 f_X8_29 rfl rfl ?_
      refine mJ_iload_n dX8_finds_38 rfl ?_
      refine mJ_ialdN dX8_finds_39 rfl (j := k) ⟨rfl, by omega, by omega⟩ ?_
      refine mJ_top htk ?_
      refine mJ_cV2i dX8_finds_40 e_X8_isIn n_X8_93 ⟨Nat.le_of_ble_eq_true rfl, Nat.le_of_ble_eq_true rfl⟩ rfl rfl (Nat.le_of_ble_eq_true rfl) (C_X8_isIn hss (show h < 12 by omega) ha2 (by omega)) ?_
      refine mJ_top (b2i_f g1) ?_
      refine mJ_if_eq 87 dX8_finds_43 rfl (fun _ => ?_) (fun c => absurd c (by decide))
      refine mJ_iinc dX8_finds_87 rfl (Nat.le_of_ble_eq_true rfl) (v := nI (k + 1)) (nI_1 k) (ls2 := [_, _, _, _]) rfl ?_
      refine mJ_goto 14 dX8_finds_90 rfl ?_
      exact hj
set_option maxHeartbeats 4000000 in
set_option maxRecDepth 100000 in
theorem C_X8_finds {d was text ord why son tri : aF} {sta typ at_ sig fst snd rea lef top shf arr goo shn trs : Int32} {nA nH nO : Nat} (hw : wD d nA nH nO) {h : Nat} (hh : h < nH) (hs : son h = -1) (hon : ∀ o, o < nH → son o = -1 ∨ sd (son o)) : ∃ (lef' top' shf' arr' goo' : Int32) (tri' : aF) (trs' : Int32), mCt k_X8_finds [.ref 0, .int (nI h)] (mH d was sta text typ at_ sig fst snd rea lef top shf arr goo ord why son shn tri trs) none (mH d was sta text typ at_ sig fst snd rea (lef') (top') (shf') (arr') (goo') ord (upd why h (p_try d son nA nH h (tryL d h) 3).1) (upd son h (p_try d son nA nH h (tryL d h) 3).2) shn (tri') (trs')) := by
  obtain ⟨w1, w2, w3, w4, w5, w6, w7, w8, w9, w10⟩ := id hw
  have hT := trU_ok tri (d (160 + h)) (dH d h 3) (dH d h 5) (d 7)
  have hE : (trU (tri, 0) (d (160 + h)) (dH d h 3) (dH d h 5) (d 7)).2 = tryL d h := trU_2 _ _ _ _ _ _
  rw [hE] at hT
  have hL := tryL_sd (w8 h hh) (w9 h hh)
  have hf := L_X8_finds (d := d) (was := was) (sta := sta) (text := text) (typ := typ) (at_ := at_) (sig := sig) (fst := fst) (snd := snd) (rea := rea) (ord := ord) (why := why) (shn := shn) hw hh hs hon hT hL (tryL d h).length 0 3 .null lef top shf arr goo (by omega)
  obtain ⟨l1, t1, s1, a1, o1, hj⟩ := hf
  rw [List.drop_zero] at hj
  refine ⟨l1, t1, s1, a1, o1, (trU (tri, 0) (d (160 + h)) (dH d h 3) (dH d h 5) (d 7)).1.1, (trU (tri, 0) (d (160 + h)) (dH d h 3) (dH d h 5) (d 7)).1.2, ?_⟩
  refine mCt_intro (plainFor_of_name rfl) (Nat.le_of_ble_eq_true rfl) (m_all rfl) (ls := [_, _, _, _]) rfl ?_
  refine mJ_aload_n dX8_finds_0 rfl ?_
  refine mJ_iload_n dX8_finds_1 rfl ?_
  refine mJ_cV1v dX8_finds_2 e_X8_lists n_X8_90 ⟨Nat.le_of_ble_eq_true rfl, Nat.le_of_ble_eq_true rfl⟩ rfl rfl (Nat.le_of_ble_eq_true rfl) (C_X8_lists (show h < 12 by omega)) ?_
  refine mJ_aload_n dX8_finds_5 rfl ?_
  refine mJ_get dX8_finds_6 f_X8_23 rfl rfl ?_
  refine mJ_iload_n dX8_finds_9 rfl ?_
  refine mJ_iconst (v := 3) dX8_finds_10 rfl ?_
  refine mJ_iastN dX8_finds_11 rfl (j := h) ⟨rfl, by omega, by omega⟩ (h2 := mH _ _ _ _ _ _ _ _ _ _ _ _ _ _ _ _ _ _ _ _ _) rfl ?_
  refine mJ_iconst (v := 0) dX8_finds_12 rfl ?_
  refine mJ_istore_n dX8_finds_13 (Nat.le_of_ble_eq_true rfl) (ls2 := [_, _, _, _]) rfl ?_
  exact hj
set_option maxHeartbeats 4000000 in
set_option maxRecDepth 100000 in
theorem L_X8_sorts_in {d was text why son tri : aF} {sta typ at_ sig fst snd rea lef top shf arr goo shn trs : Int32} {nA nH nO : Nat} (hw : wD d nA nH nO) {k : Nat} {h : Nat} (hh : h < 12) : ∀ (R S : List Nat) (f : aF), R.length + S.length < 12 → (∀ q ∈ R, q < 12) → (∀ (j v : Nat), R.reverse[j]? = some v → f j = nI v) → (∀ (j v : Nat), S[j]? = some v → f (R.length + 1 + j) = nI v) → ∃ f' : aF, oF f' ((insR d h R).reverse ++ S) ∧ ∀ (H : List mC), (∀ y : Int32, mJ k_X8_sorts 82 [.ref 0, .int (nI k), .int (nI h), .int y] [] (mH d was sta text typ at_ sig fst snd rea lef top shf arr goo (f') why son shn tri trs) none H) → mJ k_X8_sorts 27 [.ref 0, .int (nI k), .int (nI h), .int (nI R.length)] [] (mH d was sta text typ at_ sig fst snd rea lef top shf arr goo (f) why son shn tri trs) none H := by
  obtain ⟨w1, w2, w3, w4, w5, w6, w7, w8, w9, w10⟩ := id hw
  intro R
  induction R with
  | nil =>
    intro S f hl hall h1 h2
    refine ⟨upd f 0 (nI h), ?_, fun H kk => ?_⟩
    · intro j v hj
      cases j with
      | zero => simp [insR] at hj; rw [← hj]; exact upd_at _ _ _
      | succ j =>
        rw [upd_ne (by omega)]
        have := h2 j v (by simpa [insR] using hj)
        simpa [Nat.add_comm] using this
    · refine mJ_iload_n dX8_sorts_27 rfl ?_
      refine mJ_if_le 75 dX8_sorts_28 rfl (fun c_28 => ?_) (fun c_28 => False.elim (by exact c_28 (Int32.le_refl _)))
      refine mJ_aload_n dX8_sorts_75 rfl ?_
      refine mJ_get dX8_sorts_76 f_X8_20 rfl rfl ?_
      refine mJ_iload_n dX8_sorts_79 rfl ?_
      refine mJ_iload_n dX8_sorts_80 rfl ?_
      refine mJ_iastN dX8_sorts_81 rfl (j := 0) ⟨rfl, by decide, by decide⟩ (h2 := mH _ _ _ _ _ _ _ _ _ _ _ _ _ _ _ _ _ _ _ _ _) rfl ?_
      exact kk _
  | cons y R ih =>
    intro S f hl hall h1 h2
    simp only [List.length_cons] at hl h2 ⊢
    have hy : y < 12 := hall y (by simp)
    have hfy : f R.length = nI y := h1 R.length y (by simp)
    have hm1 : nI (R.length + 1) + Int32.ofInt (-1) = nI R.length := by rw [show Int32.ofInt (-1) = -1 by decide]; exact pk_m1 _
    by_cases g : dH d h 7 ≤ dH d y 7
    · refine ⟨upd f (R.length + 1) (nI h), ?_, fun H kk => ?_⟩
      · rw [show insR d h (y :: R) = h :: y :: R from if_pos g]
        intro j v hj
        by_cases q : j = R.length + 1
        · subst q
          rw [upd_at]
          rw [List.reverse_cons, List.append_assoc, List.getElem?_append_right (by simp)] at hj
          simp at hj
          rw [hj]
        · rw [upd_ne q]
          rcases Nat.lt_or_ge j (R.length + 1) with q2 | q2
          · rw [List.reverse_cons, List.append_assoc, List.getElem?_append_left (by simp; omega)] at hj
            exact h1 j v hj
          · rw [List.getElem?_append_right (by simp; omega)] at hj
            have := h2 _ v hj
            simp only [List.length_reverse, List.length_cons] at this
            rw [show R.length + 1 + 1 + (j - (R.length + 1 + 1)) = j by omega] at this
            exact this
      · refine mJ_iload_n dX8_sorts_27 rfl ?_
        refine mJ_if_le 75 dX8_sorts_28 rfl (fun c_28 => False.elim (by exact nI_nle (n := R.length + 1) (by omega) (by omega) c_28)) (fun c_28 => ?_)
        refine mJ_aload_n dX8_sorts_31 rfl ?_
        refine mJ_aload_n dX8_sorts_32 rfl ?_
        refine mJ_get dX8_sorts_33 f_X8_20 rfl rfl ?_
        refine mJ_iload_n dX8_sorts_36 rfl ?_
        refine mJ_iconst (v := 1) dX8_sorts_37 rfl ?_
        refine mJ_isub dX8_sorts_38 ?_
        refine mJ_ialdN dX8_sorts_39 rfl (j := R.length) ⟨nI_pred _, by omega, by decide⟩ ?_
        refine mJ_top hfy ?_
        refine mJ_bipush (v := 7) dX8_sorts_40 rfl ?_
        refine mJ_cV2i dX8_sorts_42 e_X8_ofHint n_X8_52 ⟨Nat.le_of_ble_eq_true rfl, Nat.le_of_ble_eq_true rfl⟩ rfl rfl (Nat.le_of_ble_eq_true rfl) (C_X8_ofHint (w := 7) hy (by decide)) ?_
        refine mJ_aload_n dX8_sorts_45 rfl ?_
        refine mJ_iload_n dX8_sorts_46 rfl ?_
        refine mJ_bipush (v := 7) dX8_sorts_47 rfl ?_
        refine mJ_cV2i dX8_sorts_49 e_X8_ofHint n_X8_52 ⟨Nat.le_of_ble_eq_true rfl, Nat.le_of_ble_eq_true rfl⟩ rfl rfl (Nat.le_of_ble_eq_true rfl) (C_X8_ofHint (w := 7) hh (by decide)) ?_
        refine mJ_icmp_ge 75 dX8_sorts_52 rfl (fun c_52 => ?_) (fun c_52 => False.elim (by exact c_52 g))
        refine mJ_aload_n dX8_sorts_75 rfl ?_
        refine mJ_get dX8_sorts_76 f_X8_20 rfl rfl ?_
        refine mJ_iload_n dX8_sorts_79 rfl ?_
        refine mJ_iload_n dX8_sorts_80 rfl ?_
        refine mJ_iastN dX8_sorts_81 rfl (j := R.length + 1) ⟨rfl, by omega, by decide⟩ (h2 := mH _ _ _ _ _ _ _ _ _ _ _ _ _ _ _ _ _ _ _ _ _) rfl ?_
        exact kk _
    · have p1 : ∀ (j v : Nat), R.reverse[j]? = some v → upd f (R.length + 1) (f R.length) j = nI v := by
        intro j v hj
        have hjl : j < R.length := by simpa using (List.getElem?_eq_some_iff.mp hj).1
        rw [upd_ne (by omega)]
        refine h1 j v ?_
        rw [List.reverse_cons, List.getElem?_append_left (by simpa using hjl)]
        exact hj
      have p2 : ∀ (j v : Nat), (y :: S)[j]? = some v → upd f (R.length + 1) (f R.length) (R.length + 1 + j) = nI v := by
        intro j v hj
        cases j with
        | zero => simp at hj; subst hj; rw [show R.length + 1 + 0 = R.length + 1 from rfl, upd_at]; exact hfy
        | succ j =>
          rw [upd_ne (by omega)]
          have := h2 j v (by simpa using hj)
          rw [show R.length + 1 + (j + 1) = R.length + 1 + 1 + j by omega]
          exact this
      obtain ⟨f', hf', hz⟩ := ih (y :: S) (upd f (R.length + 1) (f R.length)) (by simp; omega) (fun q hq => hall q (List.mem_cons_of_mem _ hq)) p1 p2
      refine ⟨f', ?_, fun H kk => ?_⟩
      · rw [show insR d h (y :: R) = y :: insR d h R from if_neg g]
        simpa using hf'
      · refine mJ_iload_n dX8_sorts_27 rfl ?_
        refine mJ_if_le 75 dX8_sorts_28 rfl (fun c_28 => False.elim (by exact nI_nle (n := R.length + 1) (by omega) (by omega) c_28)) (fun c_28 => ?_)
        refine mJ_aload_n dX8_sorts_31 rfl ?_
        refine mJ_aload_n dX8_sorts_32 rfl ?_
        refine mJ_get dX8_sorts_33 f_X8_20 rfl rfl ?_
        refine mJ_iload_n dX8_sorts_36 rfl ?_
        refine mJ_iconst (v := 1) dX8_sorts_37 rfl ?_
        refine mJ_isub dX8_sorts_38 ?_
        refine mJ_ialdN dX8_sorts_39 rfl (j := R.length) ⟨nI_pred _, by omega, by decide⟩ ?_
        refine mJ_top hfy ?_
        refine mJ_bipush (v := 7) dX8_sorts_40 rfl ?_
        refine mJ_cV2i dX8_sorts_42 e_X8_ofHint n_X8_52 ⟨Nat.le_of_ble_eq_true rfl, Nat.le_of_ble_eq_true rfl⟩ rfl rfl (Nat.le_of_ble_eq_true rfl) (C_X8_ofHint (w := 7) hy (by decide)) ?_
        refine mJ_aload_n dX8_sorts_45 rfl ?_
        refine mJ_iload_n dX8_sorts_46 rfl ?_
        refine mJ_bipush (v := 7) dX8_sorts_47 rfl ?_
        refine mJ_cV2i dX8_sorts_49 e_X8_ofHint n_X8_52 ⟨Nat.le_of_ble_eq_true rfl, Nat.le_of_ble_eq_true rfl⟩ rfl rfl (Nat.le_of_ble_eq_true rfl) (C_X8_ofHint (w := 7) hh (by decide)) ?_
        refine mJ_icmp_ge 75 dX8_sorts_52 rfl (fun c_52 => False.elim (by exact g c_52)) (fun c_52 => ?_)
        refine mJ_aload_n dX8_sorts_55 rfl ?_
        refine mJ_get dX8_sorts_56 f_X8_20 rfl rfl ?_
        refine mJ_iload_n dX8_sorts_59 rfl ?_
        refine mJ_aload_n dX8_sorts_60 rfl ?_
        refine mJ_get dX8_sorts_61 f_X8_20 rfl rfl ?_
        refine mJ_iload_n dX8_sorts_64 rfl ?_
        refine mJ_iconst (v := 1) dX8_sorts_65 rfl ?_
        refine mJ_isub dX8_sorts_66 ?_
        refine mJ_ialdN dX8_sorts_67 rfl (j := R.length) ⟨nI_pred _, by omega, by decide⟩ ?_
        refine mJ_iastN dX8_sorts_68 rfl (j := R.length + 1) ⟨rfl, by omega, by decide⟩ (h2 := mH _ _ _ _ _ _ _ _ _ _ _ _ _ _ _ _ _ _ _ _ _) rfl ?_
        refine mJ_iinc dX8_sorts_69 rfl (Nat.le_of_ble_eq_true rfl) (v := nI R.length) hm1 (ls2 := [_, _, _, _]) rfl ?_
        refine mJ_goto 27 dX8_sorts_72 rfl ?_
        exact hz H kk
set_option maxHeartbeats 4000000 in
set_option maxRecDepth 100000 in
theorem L_X8_sorts {d was text why son tri : aF} {sta typ at_ sig fst snd rea lef top shf arr goo shn trs : Int32} {nA nH nO : Nat} (hw : wD d nA nH nO) : ∀ (m k : Nat) (f : aF), k + m = nO → oF f (ordL d k) → ∃ f' : aF, oF f' (ordL d nO) ∧ ∀ (x2 x3 : Value), mJ k_X8_sorts 2 [.ref 0, .int (nI k), x2, x3] [] (mH d was sta text typ at_ sig fst snd rea lef top shf arr goo (f) why son shn tri trs) none (mH d was sta text typ at_ sig fst snd rea lef top shf arr goo (f') why son shn tri trs) := by
  obtain ⟨w1, w2, w3, w4, w5, w6, w7, w8, w9, w10⟩ := id hw
  intro m
  induction m with
  | zero =>
    intro k f hk hf
    refine ⟨f, by rw [← show k = nO by omega]; exact hf, fun x2 x3 => ?_⟩
    refine mJ_iload_n dX8_sorts_2 rfl ?_
    refine mJ_aload_n dX8_sorts_3 rfl ?_
    refine mJ_get dX8_sorts_4 f_X8_7 rfl rfl ?_
    refine mJ_sipush (v := 147) dX8_sorts_7 rfl ?_
    refine mJ_ialdN dX8_sorts_10 rfl (j := 147) ⟨rfl, by decide, by decide⟩ ?_
    refine mJ_icmp_ge 88 dX8_sorts_11 rfl (fun c_11 => ?_) (fun c_11 => False.elim (by exact c_11 (by rw [w6, show k = nO by omega]; exact Int32.le_refl _)))
    exact mJ_vret dX8_sorts_88 rfl (rfl) (rfl)
  | succ m ih =>
    intro k f hk hf
    have hk1 : k < nO := by omega
    obtain ⟨h, hh1, hh2⟩ := w10 k hk1
    have hh : h < 12 := by omega
    have hop : op d k = h := by unfold op; rw [hh2, nI_clamp (by omega)]
    have hall : ∀ q ∈ ordR d k, q < 12 := by
      intro q hq
      obtain ⟨j, hj, e⟩ := (ordR_mem d k q).mp hq
      obtain ⟨h2, hh3, hh4⟩ := w10 j (by omega)
      rw [e]; unfold op; rw [hh4, nI_clamp (by omega)]; omega
    have hlen := ordR_len d k
    obtain ⟨f1, hf1, hz⟩ := L_X8_sorts_in (was := was) (sta := sta) (text := text) (typ := typ) (at_ := at_) (sig := sig) (fst := fst) (snd := snd) (rea := rea) (lef := lef) (top := top) (shf := shf) (arr := arr) (goo := goo) (why := why) (son := son) (shn := shn) (tri := tri) (trs := trs) hw (k := k) hh (ordR d k) [] f (by rw [hlen]; simp; omega) hall hf (fun j v hj => by simp at hj)
    rw [hlen] at hz
    have e1 : oF f1 (ordL d (k + 1)) := by
      unfold ordL
      rw [ordR, hop]
      simpa using hf1
    obtain ⟨f', hf', hj⟩ := ih (k + 1) f1 (by omega) e1
    refine ⟨f', hf', fun x2 x3 => ?_⟩
    refine mJ_iload_n dX8_sorts_2 rfl ?_
    refine mJ_aload_n dX8_sorts_3 rfl ?_
    refine mJ_get dX8_sorts_4 f_X8_7 rfl rfl ?_
    refine mJ_sipush (v := 147) dX8_sorts_7 rfl ?_
    refine mJ_ialdN dX8_sorts_10 rfl (j := 147) ⟨rfl, by decide, by decide⟩ ?_
    refine mJ_icmp_ge 88 dX8_sorts_11 rfl (fun c_11 => False.elim (by rw [w6] at c_11; exact nI_ge hk1 (by omega) c_11)) (fun c_11 => ?_)
    refine mJ_aload_n dX8_sorts_14 rfl ?_
    refine mJ_get dX8_sorts_15 f_X8_7 rfl rfl ?_
    refine mJ_sipush (v := 148) dX8_sorts_18 rfl ?_
    refine mJ_iload_n dX8_sorts_21 rfl ?_
    refine mJ_iadd dX8_sorts_22 ?_
    refine mJ_ialdN dX8_sorts_23 rfl (j := 148 + k) ⟨by simp only [← nI_add]; rfl, by omega, by decide⟩ ?_
    refine mJ_top hh2 ?_
    refine mJ_istore_n dX8_sorts_24 (Nat.le_of_ble_eq_true rfl) (ls2 := [_, _, _, _]) rfl ?_
    refine mJ_iload_n dX8_sorts_25 rfl ?_
    refine mJ_istore_n dX8_sorts_26 (Nat.le_of_ble_eq_true rfl) (ls2 := [_, _, _, _]) rfl ?_
    refine hz _ (fun y => ?_)
    refine mJ_iinc dX8_sorts_82 rfl (Nat.le_of_ble_eq_true rfl) (v := nI (k + 1)) (nI_1 k) (ls2 := [_, _, _, _]) rfl ?_
    refine mJ_goto 2 dX8_sorts_85 rfl ?_
    exact hj _ _
set_option maxHeartbeats 4000000 in
set_option maxRecDepth 100000 in
theorem C_X8_sorts {d was text ord why son tri : aF} {sta typ at_ sig fst snd rea lef top shf arr goo shn trs : Int32} {nA nH nO : Nat} (hw : wD d nA nH nO) : ∃ f' : aF, oF f' (ordL d nO) ∧ mCt k_X8_sorts [.ref 0] (mH d was sta text typ at_ sig fst snd rea lef top shf arr goo ord why son shn tri trs) none (mH d was sta text typ at_ sig fst snd rea lef top shf arr goo (f') why son shn tri trs) := by
  obtain ⟨f', hf', hj⟩ := L_X8_sorts (was := was) (sta := sta) (text := text) (typ := typ) (at_ := at_) (sig := sig) (fst := fst) (snd := snd) (rea := rea) (lef := lef) (top := top) (shf := shf) (arr := arr) (goo := goo) (why := why) (son := son) (shn := shn) (tri := tri) (trs := trs) hw nO 0 ord (by omega) (fun j v hj => by simp [ordL, ordR] at hj)
  refine ⟨f', hf', ?_⟩
  refine mCt_intro (plainFor_of_name rfl) (Nat.le_of_ble_eq_true rfl) (m_all rfl) (ls := [_, _, _, _]) rfl ?_
  refine mJ_iconst (v := 0) dX8_sorts_0 rfl ?_
  refine mJ_istore_n dX8_sorts_1 (Nat.le_of_ble_eq_true rfl) (ls2 := [_, _, _, _]) rfl ?_
  exact hj _ _
