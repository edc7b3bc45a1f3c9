/-! THE REFERENCE: sides that are tried, what bars a hint, the first side -/
def sd (s : Int32) : Prop := s = 0 ∨ s = 1 ∨ s = 2 ∨ s = 3
def tU (T : tT) (L : List Int32) : Prop := T.2 = nI L.length ∧ L.length ≤ 5 ∧ ∀ (i : Nat) (v : Int32), L[i]? = some v → T.1 i = v
def addU (T : tT) (L : List Int32) (s : Int32) : tT := if s ∈ L then T else (upd T.1 L.length s, nI (L.length + 1))
theorem tU0 (a : aF) : tU (a, 0) [] := ⟨rfl, Nat.zero_le _, fun i v h => by simp at h⟩
theorem tU_add {T : tT} {L : List Int32} {s : Int32} (h : tU T L) (hs : L.length ≤ 4) : tU (addU T L s) (addL L s) := by
  obtain ⟨h1, h2, h3⟩ := h
  unfold addU addL
  by_cases hm : s ∈ L
  · rw [if_pos hm, if_pos hm]
    exact ⟨h1, h2, h3⟩
  · rw [if_neg hm, if_neg hm]
    refine ⟨by simp, by simp; omega, fun i v hi => ?_⟩
    show upd T.1 L.length s i = v
    unfold upd
    by_cases q : i = L.length
    · subst q
      rw [if_pos rfl]
      simpa using hi
    · rw [if_neg q]
      refine h3 i v ?_
      have hlt : i < (L ++ [s]).length := (List.getElem?_eq_some_iff.mp hi).1
      simp at hlt
      rw [List.getElem?_append_left (by omega)] at hi
      exact hi
def sU (p : tT × List Int32) (s : Int32) : tT × List Int32 := (addU p.1 p.2 s, addL p.2 s)
def tu1 (T : tT) (rm re : Int32) : tT × List Int32 := if re = 1 then if rm = -1 then (T, []) else sU (T, []) rm else (T, [])
def tu3 (p : tT × List Int32) (own fl : Int32) : tT × List Int32 := if fl ≤ 0 then sU p own else sU (sU p own) (m4 (own + 2))
def tu4 (p : tT × List Int32) (own fl : Int32) : tT × List Int32 := if fl = 2 then sU (sU (tu3 p own fl) (m4 (own + 1))) (m4 (own + 3)) else tu3 p own fl
def trU (T : tT) (rm own fl re : Int32) : tT × List Int32 := tu4 (tu1 T rm re) own fl
theorem sU_ok {p : tT × List Int32} {s : Int32} {n : Nat} (h : tU p.1 p.2 ∧ p.2.length ≤ n) (hn : n ≤ 4) : tU (sU p s).1 (sU p s).2 ∧ (sU p s).2.length ≤ n + 1 := by
  refine ⟨tU_add h.1 (by omega), ?_⟩
  have := addL_len p.2 s
  show (addL p.2 s).length ≤ n + 1
  omega
theorem tu1_ok (a : aF) (rm re : Int32) : tU (tu1 (a, 0) rm re).1 (tu1 (a, 0) rm re).2 ∧ (tu1 (a, 0) rm re).2.length ≤ 1 := by
  unfold tu1
  split
  · split
    · exact ⟨tU0 a, Nat.zero_le _⟩
    · exact sU_ok (p := ((a, 0), [])) (n := 0) ⟨tU0 a, Nat.le_refl _⟩ (by omega)
  · exact ⟨tU0 a, Nat.zero_le _⟩
theorem tu3_ok {p : tT × List Int32} (own fl : Int32) (h : tU p.1 p.2 ∧ p.2.length ≤ 1) : tU (tu3 p own fl).1 (tu3 p own fl).2 ∧ (tu3 p own fl).2.length ≤ 3 := by
  unfold tu3
  split
  · have := sU_ok (s := own) h (by omega)
    exact ⟨this.1, by omega⟩
  · exact sU_ok (sU_ok h (by omega)) (by omega)
theorem trU_ok (a : aF) (rm own fl re : Int32) : tU (trU (a, 0) rm own fl re).1 (trU (a, 0) rm own fl re).2 := by
  have h := tu3_ok own fl (tu1_ok a rm re)
  unfold trU tu4
  split
  · exact (sU_ok (sU_ok h (by omega)) (by omega)).1
  · exact h.1
theorem mJ_trM {M : mM} {pc : Nat} {ls st : List Value} {h' : List mC} {r : Option Value} {d was text ord why son tri : aF} {sta typ at_ sig fst snd rea lef top shf arr goo shn trs : Int32} {a' : tT} (e : a' = (tri, trs)) (kk : mJ M pc ls st (mH d was sta text typ at_ sig fst snd rea lef top shf arr goo ord why son shn (a'.1) (a'.2)) r h') : mJ M pc ls st (mH d was sta text typ at_ sig fst snd rea lef top shf arr goo ord why son shn tri trs) r h' := by
  subst e; exact kk
set_option maxHeartbeats 4000000 in
set_option maxRecDepth 100000 in
theorem L_X8_addTry_1 {d was text ord why son tri : aF} {sta typ at_ sig fst snd rea lef top shf arr goo shn trs : Int32} {L : List Int32} {s : Int32} (hT : tU (tri, trs) L) (hm : s ∈ L) : ∀ (n k : Nat), k + n = L.length → mJ k_X8_addTry 4 [.ref 0, .int s, .int 1, .int (nI k)] [] (mH d was sta text typ at_ sig fst snd rea lef top shf arr goo ord why son shn tri trs) none (mH d was sta text typ at_ sig fst snd rea lef top shf arr goo ord why son shn ((addU (tri, trs) L s).1) ((addU (tri, trs) L s).2)) := by
  have h1 : trs = nI L.length := hT.1
  intro n
  induction n with
  | zero =>
    intro k hk0
    have hk : k = L.length := by omega
    refine mJ_iload_n dX8_addTry_4 rfl ?_
    refine mJ_aload_n dX8_addTry_5 rfl ?_
    refine mJ_get dX8_addTry_6 f_X8_83 rfl rfl ?_
    refine mJ_icmp_ge 38 dX8_addTry_9 rfl (fun c_9 => ?_) (fun c_9 => False.elim (by exact c_9 (by rw [h1, ← hk]; exact Int32.le_refl _)))
    refine mJ_iload_n dX8_addTry_38 rfl ?_
    refine mJ_if_ne 62 dX8_addTry_39 rfl (fun _ => ?_) (fun c => absurd c (by decide))
    exact mJ_vret dX8_addTry_62 rfl (rfl) (by simp [addU, hm])
  | succ n ih =>
    intro k hk0
    have hk : k < L.length := by omega
    have hL5 := hT.2.1
    refine mJ_iload_n dX8_addTry_4 rfl ?_
    refine mJ_aload_n dX8_addTry_5 rfl ?_
    refine mJ_get dX8_addTry_6 f_X8_83 rfl rfl ?_
    refine mJ_icmp_ge 38 dX8_addTry_9 rfl (fun c_9 => False.elim (by rw [h1] at c_9; exact nI_ge hk (by have := hT.2.1; omega) c_9)) (fun c_9 => ?_)
    refine mJ_iload_n dX8_addTry_12 rfl ?_
    refine mJ_if_ne 26 dX8_addTry_13 rfl (fun _ => ?_) (fun c => absurd c (by decide))
    refine mJ_iconst (v := 1) dX8_addTry_26 rfl ?_
    refine mJ_goto 31 dX8_addTry_27 rfl ?_
    refine mJ_istore_n dX8_addTry_31 (Nat.le_of_ble_eq_true rfl) (ls2 := [_, _, _, _]) rfl ?_
    refine mJ_iinc dX8_addTry_32 rfl (Nat.le_of_ble_eq_true rfl) (v := nI (k + 1)) (nI_1 k) (ls2 := [_, _, _, _]) rfl ?_
    refine mJ_goto 4 dX8_addTry_35 rfl ?_
    exact ih (k + 1) (by omega)
set_option maxHeartbeats 4000000 in
set_option maxRecDepth 100000 in
theorem L_X8_addTry_0 {d was text ord why son tri : aF} {sta typ at_ sig fst snd rea lef top shf arr goo shn trs : Int32} {L : List Int32} {s : Int32} (hT : tU (tri, trs) L) (h4 : L.length ≤ 4) : ∀ (n k : Nat), k + n = L.length → (∀ j, j < k → L[j]? ≠ some s) → mJ k_X8_addTry 4 [.ref 0, .int s, .int 0, .int (nI k)] [] (mH d was sta text typ at_ sig fst snd rea lef top shf arr goo ord why son shn tri trs) none (mH d was sta text typ at_ sig fst snd rea lef top shf arr goo ord why son shn ((addU (tri, trs) L s).1) ((addU (tri, trs) L s).2)) := by
  have h1 : trs = nI L.length := hT.1
  intro n
  induction n with
  | zero =>
    intro k hk0 hno
    have hk : k = L.length := by omega
    have hm : ¬ s ∈ L := fun hs => by
      obtain ⟨j, hj⟩ := List.getElem?_of_mem hs
      have := (List.getElem?_eq_some_iff.mp hj).1
      exact hno j (by omega) hj
    refine mJ_iload_n dX8_addTry_4 rfl ?_
    refine mJ_aload_n dX8_addTry_5 rfl ?_
    refine mJ_get dX8_addTry_6 f_X8_83 rfl rfl ?_
    refine mJ_icmp_ge 38 dX8_addTry_9 rfl (fun c_9 => ?_) (fun c_9 => False.elim (by exact c_9 (by rw [h1, ← hk]; exact Int32.le_refl _)))
    refine mJ_iload_n dX8_addTry_38 rfl ?_
    refine mJ_if_ne 62 dX8_addTry_39 rfl (fun c => absurd c (by decide)) (fun _ => ?_)
    refine mJ_aload_n dX8_addTry_42 rfl ?_
    refine mJ_get dX8_addTry_43 f_X8_29 rfl rfl ?_
    refine mJ_aload_n dX8_addTry_46 rfl ?_
    refine mJ_get dX8_addTry_47 f_X8_83 rfl rfl ?_
    refine mJ_iload_n dX8_addTry_50 rfl ?_
    refine mJ_iastN dX8_addTry_51 rfl (j := L.length) ⟨h1, by omega, by decide⟩ (h2 := mH _ _ _ _ _ _ _ _ _ _ _ _ _ _ _ _ _ _ _ _ _) rfl ?_
    refine mJ_aload_n dX8_addTry_52 rfl ?_
    refine mJ_dup dX8_addTry_53 rfl ?_
    refine mJ_get dX8_addTry_54 f_X8_83 rfl rfl ?_
    refine mJ_iconst (v := 1) dX8_addTry_57 rfl ?_
    refine mJ_iadd dX8_addTry_58 ?_
    refine mJ_top (show trs + 1 = nI (L.length + 1) by rw [h1]; exact nI_1 _) ?_
    refine mJ_put dX8_addTry_59 p_X8_83 rfl (Nat.le_of_ble_eq_true rfl) rfl rfl (h2 := mH _ _ _ _ _ _ _ _ _ _ _ _ _ _ _ _ _ _ _ _ _) rfl ?_
    exact mJ_vret dX8_addTry_62 rfl (rfl) (by simp [addU, hm])
  | succ n ih =>
    intro k hk0 hno
    have hk : k < L.length := by omega
    have hL5 := hT.2.1
    obtain ⟨w, hw⟩ : ∃ w, L[k]? = some w := ⟨_, List.getElem?_eq_getElem hk⟩
    have hv : tri k = w := hT.2.2 k w hw
    refine mJ_iload_n dX8_addTry_4 rfl ?_
    refine mJ_aload_n dX8_addTry_5 rfl ?_
    refine mJ_get dX8_addTry_6 f_X8_83 rfl rfl ?_
    refine mJ_icmp_ge 38 dX8_addTry_9 rfl (fun c_9 => False.elim (by rw [h1] at c_9; exact nI_ge hk (by have := hT.2.1; omega) c_9)) (fun c_9 => ?_)
    refine mJ_iload_n dX8_addTry_12 rfl ?_
    refine mJ_if_ne 26 dX8_addTry_13 rfl (fun c => absurd c (by decide)) (fun _ => ?_)
    refine mJ_aload_n dX8_addTry_16 rfl ?_
    refine mJ_get dX8_addTry_17 f_X8_29 rfl rfl ?_
    refine mJ_iload_n dX8_addTry_20 rfl ?_
    refine mJ_ialdN dX8_addTry_21 rfl (j := k) ⟨rfl, by omega, by omega⟩ ?_
    refine mJ_iload_n dX8_addTry_22 rfl ?_
    refine mJ_icmp_ne 30 dX8_addTry_23 rfl (fun c_23 => ?_) (fun c_23 => ?_)
    · refine mJ_iconst (v := 0) dX8_addTry_30 rfl ?_
      refine mJ_istore_n dX8_addTry_31 (Nat.le_of_ble_eq_true rfl) (ls2 := [_, _, _, _]) rfl ?_
      refine mJ_iinc dX8_addTry_32 rfl (Nat.le_of_ble_eq_true rfl) (v := nI (k + 1)) (nI_1 k) (ls2 := [_, _, _, _]) rfl ?_
      refine mJ_goto 4 dX8_addTry_35 rfl ?_
      refine ih (k + 1) (by omega) (fun j hj => ?_)
      rcases Nat.lt_or_ge j k with q | q
      · exact hno j q
      · rw [show j = k by omega, hw]; intro e; exact c_23 (by rw [hv]; exact Option.some.inj e)
    · refine mJ_iconst (v := 1) dX8_addTry_26 rfl ?_
      refine mJ_goto 31 dX8_addTry_27 rfl ?_
      refine mJ_istore_n dX8_addTry_31 (Nat.le_of_ble_eq_true rfl) (ls2 := [_, _, _, _]) rfl ?_
      refine mJ_iinc dX8_addTry_32 rfl (Nat.le_of_ble_eq_true rfl) (v := nI (k + 1)) (nI_1 k) (ls2 := [_, _, _, _]) rfl ?_
      refine mJ_goto 4 dX8_addTry_35 rfl ?_
      exact L_X8_addTry_1 hT (List.mem_of_getElem? (by rw [hw, ← hv, c_23])) n (k + 1) (by omega)
set_option maxHeartbeats 4000000 in
set_option maxRecDepth 100000 in
theorem C_X8_addTry {d was text ord why son tri : aF} {sta typ at_ sig fst snd rea lef top shf arr goo shn trs : Int32} {L : List Int32} {s : Int32} (hT : tU (tri, trs) L) (h4 : L.length ≤ 4) : mCt k_X8_addTry [.ref 0, .int s] (mH d was sta text typ at_ sig fst snd rea lef top shf arr goo ord why son shn tri trs) none (mH d was sta text typ at_ sig fst snd rea lef top shf arr goo ord why son shn ((addU (tri, trs) L s).1) ((addU (tri, trs) L s).2)) := by
  refine mCt_intro (plainFor_of_name rfl) (Nat.le_of_ble_eq_true rfl) (m_all rfl) (ls := [_, _, _, _]) rfl ?_
  refine mJ_iconst (v := 0) dX8_addTry_0 rfl ?_
  refine mJ_istore_n dX8_addTry_1 (Nat.le_of_ble_eq_true rfl) (ls2 := [_, _, _, _]) rfl ?_
  refine mJ_iconst (v := 0) dX8_addTry_2 rfl ?_
  refine mJ_istore_n dX8_addTry_3 (Nat.le_of_ble_eq_true rfl) (ls2 := [_, _, _, _]) rfl ?_
  exact L_X8_addTry_0 hT h4 L.length 0 (by omega) (fun j hj => absurd hj (by omega))
set_option maxHeartbeats 4000000 in
set_option maxRecDepth 100000 in
theorem C_X8_lists {d was text ord why son tri : aF} {sta typ at_ sig fst snd rea lef top shf arr goo shn trs : Int32} {h : Nat} (hh : h < 12) : mCt k_X8_lists [.ref 0, .int (nI h)] (mH d was sta text typ at_ sig fst snd rea lef top shf arr goo ord why son shn tri trs) none (mH d was sta text typ at_ sig fst snd rea lef top shf arr goo ord why son shn ((trU (tri, 0) (d (160 + h)) (dH d h 3) (dH d h 5) (d 7)).1.1) ((trU (tri, 0) (d (160 + h)) (dH d h 3) (dH d h 5) (d 7)).1.2)) := by
  have j102 : mJ k_X8_lists 102 [.ref 0, .int (nI h), .int (dH d h 3)] [] (mH d was sta text typ at_ sig fst snd rea lef top shf arr goo ord why son shn ((tu4 (tu1 (tri, 0) (d (160 + h)) (d 7)) (dH d h 3) (dH d h 5)).1.1) ((tu4 (tu1 (tri, 0) (d (160 + h)) (d 7)) (dH d h 3) (dH d h 5)).1.2)) none (mH d was sta text typ at_ sig fst snd rea lef top shf arr goo ord why son shn ((trU (tri, 0) (d (160 + h)) (dH d h 3) (dH d h 5) (d 7)).1.1) ((trU (tri, 0) (d (160 + h)) (dH d h 3) (dH d h 5) (d 7)).1.2)) := by
    exact mJ_vret dX8_lists_102 rfl (rfl) (rfl)
  have j74 : mJ k_X8_lists 74 [.ref 0, .int (nI h), .int (dH d h 3)] [] (mH d was sta text typ at_ sig fst snd rea lef top shf arr goo ord why son shn ((tu3 (tu1 (tri, 0) (d (160 + h)) (d 7)) (dH d h 3) (dH d h 5)).1.1) ((tu3 (tu1 (tri, 0) (d (160 + h)) (d 7)) (dH d h 3) (dH d h 5)).1.2)) none (mH d was sta text typ at_ sig fst snd rea lef top shf arr goo ord why son shn ((trU (tri, 0) (d (160 + h)) (dH d h 3) (dH d h 5) (d 7)).1.1) ((trU (tri, 0) (d (160 + h)) (dH d h 3) (dH d h 5) (d 7)).1.2)) := by
    refine mJ_aload_n dX8_lists_74 rfl ?_
    refine mJ_iload_n dX8_lists_75 rfl ?_
    refine mJ_iconst (v := 5) dX8_lists_76 rfl ?_
    refine mJ_cV2i dX8_lists_77 e_X8_ofHint n_X8_52 ⟨Nat.le_of_ble_eq_true rfl, Nat.le_of_ble_eq_true rfl⟩ rfl rfl (Nat.le_of_ble_eq_true rfl) (C_X8_ofHint (w := 5) hh (by decide)) ?_
    refine mJ_iconst (v := 2) dX8_lists_80 rfl ?_
    refine mJ_icmp_ne 102 dX8_lists_81 rfl (fun c_81 => ?_) (fun c_81 => ?_)
    · exact mJ_trM (a' := (tu4 (tu1 (tri, 0) (d (160 + h)) (d 7)) (dH d h 3) (dH d h 5)).1) (by unfold tu4; rw [if_neg c_81]) j102
    · refine mJ_aload_n dX8_lists_84 rfl ?_
      refine mJ_iload_n dX8_lists_85 rfl ?_
      refine mJ_iconst (v := 1) dX8_lists_86 rfl ?_
      refine mJ_iadd dX8_lists_87 ?_
      refine mJ_iconst (v := 4) dX8_lists_88 rfl ?_
      refine mJ_irem dX8_lists_89 (by decide) ?_
      refine mJ_cV1v dX8_lists_90 e_X8_addTry n_X8_86 ⟨Nat.le_of_ble_eq_true rfl, Nat.le_of_ble_eq_true rfl⟩ rfl rfl (Nat.le_of_ble_eq_true rfl) (C_X8_addTry (L := (tu3 (tu1 (tri, 0) (d (160 + h)) (d 7)) (dH d h 3) (dH d h 5)).2) (tu3_ok (dH d h 3) (dH d h 5) (tu1_ok tri (d (160 + h)) (d 7))).1 (by have := (tu3_ok (dH d h 3) (dH d h 5) (tu1_ok tri (d (160 + h)) (d 7))).2; omega)) ?_
      refine mJ_aload_n dX8_lists_93 rfl ?_
      refine mJ_iload_n dX8_lists_94 rfl ?_
      refine mJ_iconst (v := 3) dX8_lists_95 rfl ?_
      refine mJ_iadd dX8_lists_96 ?_
      refine mJ_iconst (v := 4) dX8_lists_97 rfl ?_
      refine mJ_irem dX8_lists_98 (by decide) ?_
      refine mJ_cV1v dX8_lists_99 e_X8_addTry n_X8_86 ⟨Nat.le_of_ble_eq_true rfl, Nat.le_of_ble_eq_true rfl⟩ rfl rfl (Nat.le_of_ble_eq_true rfl) (C_X8_addTry (L := (sU (tu3 (tu1 (tri, 0) (d (160 + h)) (d 7)) (dH d h 3) (dH d h 5)) (m4 (dH d h 3 + 1))).2) (sU_ok (tu3_ok (dH d h 3) (dH d h 5) (tu1_ok tri (d (160 + h)) (d 7))) (by omega)).1 (by have := (sU_ok (s := m4 (dH d h 3 + 1)) (tu3_ok (dH d h 3) (dH d h 5) (tu1_ok tri (d (160 + h)) (d 7))) (by omega)).2; omega)) ?_
      exact mJ_trM (a' := (tu4 (tu1 (tri, 0) (d (160 + h)) (d 7)) (dH d h 3) (dH d h 5)).1) (by unfold tu4; rw [if_pos c_81]; rfl) j102
  have j44 : mJ k_X8_lists 44 [.ref 0, .int (nI h), .null] [] (mH d was sta text typ at_ sig fst snd rea lef top shf arr goo ord why son shn ((tu1 (tri, 0) (d (160 + h)) (d 7)).1.1) ((tu1 (tri, 0) (d (160 + h)) (d 7)).1.2)) none (mH d was sta text typ at_ sig fst snd rea lef top shf arr goo ord why son shn ((trU (tri, 0) (d (160 + h)) (dH d h 3) (dH d h 5) (d 7)).1.1) ((trU (tri, 0) (d (160 + h)) (dH d h 3) (dH d h 5) (d 7)).1.2)) := by
    refine mJ_aload_n dX8_lists_44 rfl ?_
    refine mJ_iload_n dX8_lists_45 rfl ?_
    refine mJ_iconst (v := 3) dX8_lists_46 rfl ?_
    refine mJ_cV2i dX8_lists_47 e_X8_ofHint n_X8_52 ⟨Nat.le_of_ble_eq_true rfl, Nat.le_of_ble_eq_true rfl⟩ rfl rfl (Nat.le_of_ble_eq_true rfl) (C_X8_ofHint (w := 3) hh (by decide)) ?_
    refine mJ_istore_n dX8_lists_50 (Nat.le_of_ble_eq_true rfl) (ls2 := [_, _, _]) rfl ?_
    refine mJ_aload_n dX8_lists_51 rfl ?_
    refine mJ_iload_n dX8_lists_52 rfl ?_
    refine mJ_cV1v dX8_lists_53 e_X8_addTry n_X8_86 ⟨Nat.le_of_ble_eq_true rfl, Nat.le_of_ble_eq_true rfl⟩ rfl rfl (Nat.le_of_ble_eq_true rfl) (C_X8_addTry (L := (tu1 (tri, 0) (d (160 + h)) (d 7)).2) (tu1_ok tri (d (160 + h)) (d 7)).1 (by have := (tu1_ok tri (d (160 + h)) (d 7)).2; omega)) ?_
    refine mJ_aload_n dX8_lists_56 rfl ?_
    refine mJ_iload_n dX8_lists_57 rfl ?_
    refine mJ_iconst (v := 5) dX8_lists_58 rfl ?_
    refine mJ_cV2i dX8_lists_59 e_X8_ofHint n_X8_52 ⟨Nat.le_of_ble_eq_true rfl, Nat.le_of_ble_eq_true rfl⟩ rfl rfl (Nat.le_of_ble_eq_true rfl) (C_X8_ofHint (w := 5) hh (by decide)) ?_
    refine mJ_if_le 74 dX8_lists_62 rfl (fun c_62 => ?_) (fun c_62 => ?_)
    · exact mJ_trM (a' := (tu3 (tu1 (tri, 0) (d (160 + h)) (d 7)) (dH d h 3) (dH d h 5)).1) (by unfold tu3; rw [if_pos c_62]; rfl) j74
    · refine mJ_aload_n dX8_lists_65 rfl ?_
      refine mJ_iload_n dX8_lists_66 rfl ?_
      refine mJ_iconst (v := 2) dX8_lists_67 rfl ?_
      refine mJ_iadd dX8_lists_68 ?_
      refine mJ_iconst (v := 4) dX8_lists_69 rfl ?_
      refine mJ_irem dX8_lists_70 (by decide) ?_
      refine mJ_cV1v dX8_lists_71 e_X8_addTry n_X8_86 ⟨Nat.le_of_ble_eq_true rfl, Nat.le_of_ble_eq_true rfl⟩ rfl rfl (Nat.le_of_ble_eq_true rfl) (C_X8_addTry (L := (sU (tu1 (tri, 0) (d (160 + h)) (d 7)) (dH d h 3)).2) (sU_ok (tu1_ok tri (d (160 + h)) (d 7)) (by omega)).1 (by have := (sU_ok (s := (dH d h 3)) (tu1_ok tri (d (160 + h)) (d 7)) (by omega)).2; omega)) ?_
      exact mJ_trM (a' := (tu3 (tu1 (tri, 0) (d (160 + h)) (d 7)) (dH d h 3) (dH d h 5)).1) (by unfold tu3; rw [if_neg c_62]; rfl) j74
  refine mCt_intro (plainFor_of_name rfl) (Nat.le_of_ble_eq_true rfl) (m_all rfl) (ls := [_, _, _]) rfl ?_
  refine mJ_aload_n dX8_lists_0 rfl ?_
  refine mJ_iconst (v := 0) dX8_lists_1 rfl ?_
  refine mJ_put dX8_lists_2 p_X8_83 rfl (Nat.le_of_ble_eq_true rfl) rfl rfl (h2 := mH _ _ _ _ _ _ _ _ _ _ _ _ _ _ _ _ _ _ _ _ _) rfl ?_
  refine mJ_aload_n dX8_lists_5 rfl ?_
  refine mJ_get dX8_lists_6 f_X8_7 rfl rfl ?_
  refine mJ_bipush (v := 7) dX8_lists_9 rfl ?_
  refine mJ_ialdN dX8_lists_11 rfl (j := 7) ⟨rfl, by decide, by decide⟩ ?_
  refine mJ_iconst (v := 1) dX8_lists_12 rfl ?_
  refine mJ_icmp_ne 44 dX8_lists_13 rfl (fun c_13 => ?_) (fun c_13 => ?_)
  · exact mJ_trM (a' := (tu1 (tri, 0) (d (160 + h)) (d 7)).1) (by unfold tu1; rw [if_neg c_13]) j44
  · refine mJ_aload_n dX8_lists_16 rfl ?_
    refine mJ_get dX8_lists_17 f_X8_7 rfl rfl ?_
    refine mJ_sipush (v := 160) dX8_lists_20 rfl ?_
    refine mJ_iload_n dX8_lists_23 rfl ?_
    refine mJ_iadd dX8_lists_24 ?_
    refine mJ_ialdN dX8_lists_25 rfl (j := 160 + h) ⟨by simp only [← nI_add]; rfl, by omega, by omega⟩ ?_
    refine mJ_iconst (v := (-1)) dX8_lists_26 rfl ?_
    refine mJ_icmp_eq 44 dX8_lists_27 rfl (fun c_27 => ?_) (fun c_27 => ?_)
    · exact mJ_trM (a' := (tu1 (tri, 0) (d (160 + h)) (d 7)).1) (by unfold tu1; rw [if_pos c_13, if_pos c_27]) j44
    · refine mJ_aload_n dX8_lists_30 rfl ?_
      refine mJ_aload_n dX8_lists_31 rfl ?_
      refine mJ_get dX8_lists_32 f_X8_7 rfl rfl ?_
      refine mJ_sipush (v := 160) dX8_lists_35 rfl ?_
      refine mJ_iload_n dX8_lists_38 rfl ?_
      refine mJ_iadd dX8_lists_39 ?_
      refine mJ_ialdN dX8_lists_40 rfl (j := 160 + h) ⟨by simp only [← nI_add]; rfl, by omega, by omega⟩ ?_
      refine mJ_cV1v dX8_lists_41 e_X8_addTry n_X8_86 ⟨Nat.le_of_ble_eq_true rfl, Nat.le_of_ble_eq_true rfl⟩ rfl rfl (Nat.le_of_ble_eq_true rfl) (C_X8_addTry (L := []) (s := d (160 + h)) (tU0 tri) (by decide)) ?_
      exact mJ_trM (a' := (tu1 (tri, 0) (d (160 + h)) (d 7)).1) (by unfold tu1; rw [if_pos c_13, if_neg c_27]; rfl) j44
