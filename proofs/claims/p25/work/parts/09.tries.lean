/-! THE SIDES THAT ARE TRIED: a list without repeats, kept in a row of four -/
def addL (L : List Int32) (s : Int32) : List Int32 := if s ∈ L then L else L ++ [s]
def addT (T : tT) (L : List Int32) (s : Int32) : tT := if s ∈ L then T else (rp 4 T.1 T.2 s, T.2 + 1)
def tL (T : tT) (L : List Int32) : Prop := T.2 = nI L.length ∧ L.length ≤ 4 ∧ ∀ (i : Nat) (v : Int32), L[i]? = some v → T.1 i = v
theorem tL0 (a : aF) : tL (a, 0) [] := ⟨rfl, Nat.zero_le _, fun i v h => by simp at h⟩
theorem addL_len (L : List Int32) (s : Int32) : (addL L s).length ≤ L.length + 1 := by unfold addL; split <;> simp
theorem tL_add {T : tT} {L : List Int32} {s : Int32} (h : tL T L) (hs : s ∈ L ∨ L.length < 4) : tL (addT T L s) (addL L s) := by
  obtain ⟨h1, h2, h3⟩ := h
  unfold addT addL
  by_cases hm : s ∈ L
  · rw [if_pos hm, if_pos hm]
    exact ⟨h1, h2, h3⟩
  · have hl : L.length < 4 := hs.resolve_left hm
    rw [if_neg hm, if_neg hm]
    refine ⟨?_, ?_, fun i v hi => ?_⟩
    · show T.2 + 1 = _
      rw [h1, nI_1]; simp
    · simp; omega
    · show rp 4 T.1 T.2 s i = v
      rw [h1, rp_in _ _ hl (by omega)]
      unfold upd
      by_cases q : i = L.length
      · subst q
        rw [if_pos rfl]
        simpa using hi
      · rw [if_neg q]
        refine h3 i v ?_
        have hlt : i < (L ++ [s]).length := (List.getElem?_eq_some_iff.mp hi).1
        simp at hlt
        rw [List.getElem?_append_left (by omega)] at hi
        exact hi
def m4 (x : Int32) : Int32 := x - x / 4 * 4
def stT (p : tT × List Int32) (s : Int32) : tT × List Int32 := (addT p.1 p.2 s, addL p.2 s)
def tr1 (T : tT) (rm re : Int32) : tT × List Int32 := if re = 1 then if rm = -1 then (T, []) else stT (T, []) rm else (T, [])
def tr3 (p : tT × List Int32) (own fl : Int32) : tT × List Int32 := if fl < 1 then stT p own else stT (stT p own) (m4 (own + 2))
def tr4 (p : tT × List Int32) (own fl : Int32) : tT × List Int32 := if fl = 2 then stT (stT (tr3 p own fl) (m4 (own + 1))) (m4 (own + 4 - 1)) else tr3 p own fl
def trL (T : tT) (rm own fl re : Int32) : tT × List Int32 := tr4 (tr1 T rm re) own fl
theorem stT_ok {p : tT × List Int32} {s : Int32} {n : Nat} (h : tL p.1 p.2 ∧ p.2.length ≤ n) (hn : n < 4) : tL (stT p s).1 (stT p s).2 ∧ (stT p s).2.length ≤ n + 1 := by
  refine ⟨tL_add h.1 (Or.inr (by omega)), ?_⟩
  have := addL_len p.2 s
  show (addL p.2 s).length ≤ n + 1
  omega
theorem tr1_ok (a : aF) (rm re : Int32) : tL (tr1 (a, 0) rm re).1 (tr1 (a, 0) rm re).2 ∧ (tr1 (a, 0) rm re).2.length ≤ 1 := by
  unfold tr1
  split
  · split
    · exact ⟨tL0 a, Nat.zero_le _⟩
    · exact stT_ok (p := ((a, 0), [])) (n := 0) ⟨tL0 a, Nat.le_refl _⟩ (by omega)
  · exact ⟨tL0 a, Nat.zero_le _⟩
theorem tr3_ok {p : tT × List Int32} (own fl : Int32) (h : tL p.1 p.2 ∧ p.2.length ≤ 1) : tL (tr3 p own fl).1 (tr3 p own fl).2 ∧ (tr3 p own fl).2.length ≤ 3 := by
  unfold tr3
  split
  · have := stT_ok (s := own) h (by omega)
    exact ⟨this.1, by omega⟩
  · exact stT_ok (stT_ok h (by omega)) (by omega)
theorem trL_ok0 (a : aF) {rm own fl re : Int32} : tL (tr3 (tr1 (a, 0) rm re) own fl).1 (tr3 (tr1 (a, 0) rm re) own fl).2 ∧ tL (stT (tr3 (tr1 (a, 0) rm re) own fl) (m4 (own + 1))).1 (stT (tr3 (tr1 (a, 0) rm re) own fl) (m4 (own + 1))).2 := by
  have h := tr3_ok own fl (tr1_ok a rm re)
  exact ⟨h.1, (stT_ok h (by omega)).1⟩
set_option maxHeartbeats 4000000 in
set_option maxRecDepth 100000 in
theorem L_X6_add_18 {C : aF} {Hs : tH} {Sw : tS} {P1 : tP} {Od : tO} {T2 : tT} {P2 : tP} {a : aF} {m s : Int32} {L : List Int32} (hT : tL (a, m) L) : ∀ (n k : Nat), k + n = L.length → (∀ j, j < k → L[j]? ≠ some s) → mJ k_X6_add 2 [.ref 18, .int s, .int (nI k)] [] (cH C Hs Sw (a, m) P1 Od T2 P2) none (cH C Hs Sw (addT (a, m) L s) P1 Od T2 P2) := by
  have h1 : m = nI L.length := hT.1
  intro n
  induction n with
  | zero =>
    intro k hk hno
    have hm : ¬ s ∈ L := fun hs => by
      obtain ⟨j, hj⟩ := List.getElem?_of_mem hs
      have := (List.getElem?_eq_some_iff.mp hj).1
      exact hno j (by omega) hj
    have hk : k = L.length := by omega
    refine mJ_iload_n dX6_add_2 rfl ?_
    refine mJ_aload_n dX6_add_3 rfl ?_
    refine mJ_get_18_1 dX6_add_4 f_X6_20 ?_
    refine mJ_icmp_ge 29 dX6_add_7 rfl (fun c_7 => ?_) (fun c_7 => False.elim (by exact c_7 (by rw [h1, ← hk]; exact Int32.le_refl _)))
    refine mJ_aload_n dX6_add_29 rfl ?_
    refine mJ_get dX6_add_30 f_X6_14 rfl rfl ?_
    refine mJ_aload_n dX6_add_33 rfl ?_
    refine mJ_get_18_1 dX6_add_34 f_X6_20 ?_
    refine mJ_iload_n dX6_add_37 rfl ?_
    refine mJ_cV2v dX6_add_38 e_X3_put n_X6_40 ⟨Nat.le_of_ble_eq_true rfl, Nat.le_of_ble_eq_true rfl⟩ rfl rfl (Nat.le_of_ble_eq_true rfl) (C_put_20 (T1 := (a, m))) ?_
    refine mJ_aload_n dX6_add_41 rfl ?_
    refine mJ_dup dX6_add_42 rfl ?_
    refine mJ_get_18_1 dX6_add_43 f_X6_20 ?_
    refine mJ_iconst (v := 1) dX6_add_46 rfl ?_
    refine mJ_iadd dX6_add_47 ?_
    refine mJ_put_18_1 dX6_add_48 p_X6_20 ?_
    exact mJ_vret dX6_add_51 rfl (rfl) (by simp [addT, hm])
  | succ n ih =>
    intro k hk0 hno
    have hk : k < L.length := by omega
    obtain ⟨w, hw⟩ : ∃ w, L[k]? = some w := ⟨_, List.getElem?_eq_getElem hk⟩
    have hv : rg 4 a (nI k) = w := by rw [rg_in a (by have := hT.2.1; omega) (by omega)]; exact hT.2.2 k w hw
    refine mJ_iload_n dX6_add_2 rfl ?_
    refine mJ_aload_n dX6_add_3 rfl ?_
    refine mJ_get_18_1 dX6_add_4 f_X6_20 ?_
    refine mJ_icmp_ge 29 dX6_add_7 rfl (fun c_7 => False.elim (by rw [h1] at c_7; exact nI_ge hk (by have := hT.2.1; omega) c_7)) (fun c_7 => ?_)
    refine mJ_aload_n dX6_add_10 rfl ?_
    refine mJ_get dX6_add_11 f_X6_14 rfl rfl ?_
    refine mJ_iload_n dX6_add_14 rfl ?_
    refine mJ_cV1i dX6_add_15 e_X3_get n_X6_37 ⟨Nat.le_of_ble_eq_true rfl, Nat.le_of_ble_eq_true rfl⟩ rfl rfl (Nat.le_of_ble_eq_true rfl) (C_X3_get rfl rfl (Nat.le_of_ble_eq_true rfl)) ?_
    refine mJ_top hv ?_
    refine mJ_iload_n dX6_add_18 rfl ?_
    refine mJ_icmp_ne 23 dX6_add_19 rfl (fun c_19 => ?_) (fun c_19 => ?_)
    · refine mJ_iinc dX6_add_23 rfl (Nat.le_of_ble_eq_true rfl) (v := nI (k + 1)) (nI_1 k) (ls2 := [_, _, _]) rfl ?_
      refine mJ_goto 2 dX6_add_26 rfl ?_
      refine ih (k + 1) (by omega) (fun j hj => ?_)
      rcases Nat.lt_or_ge j k with q | q
      · exact hno j q
      · rw [show j = k by omega, hw]; intro e; exact c_19 (Option.some.inj e)
    · exact mJ_vret dX6_add_22 rfl (rfl) (by simp [addT, List.mem_of_getElem? (c_19 ▸ hw)])
set_option maxHeartbeats 4000000 in
set_option maxRecDepth 100000 in
theorem C_X6_add_18 {C : aF} {Hs : tH} {Sw : tS} {T1 : tT} {P1 : tP} {Od : tO} {T2 : tT} {P2 : tP} {s : Int32} {L : List Int32} (hT : tL T1 L) : mCt k_X6_add [.ref 18, .int s] (cH C Hs Sw T1 P1 Od T2 P2) none (cH C Hs Sw (addT T1 L s) P1 Od T2 P2) := by
  obtain ⟨a, m⟩ := T1
  refine mCt_intro (plainFor_of_name rfl) (Nat.le_of_ble_eq_true rfl) (m_all rfl) (ls := [_, _, _]) rfl ?_
  refine mJ_iconst (v := 0) dX6_add_0 rfl ?_
  refine mJ_istore_n dX6_add_1 (Nat.le_of_ble_eq_true rfl) (ls2 := [_, _, _]) rfl ?_
  exact L_X6_add_18 hT L.length 0 (by omega) (fun j hj => absurd hj (by omega))
theorem mJ_tr18 {M : mM} {pc : Nat} {ls st : List Value} {h' : List mC} {r : Option Value} {C : aF} {Hs : tH} {Sw : tS} {T1 : tT} {P1 : tP} {Od : tO} {T2 : tT} {P2 : tP} {T' : tT} (e : T' = T1) (kk : mJ M pc ls st (cH C Hs Sw (T') P1 Od T2 P2) r h') : mJ M pc ls st (cH C Hs Sw T1 P1 Od T2 P2) r h' := e ▸ kk
set_option maxHeartbeats 4000000 in
set_option maxRecDepth 100000 in
theorem C_X6_list_18 {C : aF} {Hs : tH} {Sw : tS} {T1 : tT} {P1 : tP} {Od : tO} {T2 : tT} {P2 : tP} {h : Int32} : mCt k_X6_list [.ref 18, .ref 1, .int h] (cH C Hs Sw T1 P1 Od T2 P2) none (cH C Hs Sw ((trL (T1.1, 0) (gH C h 9) (gH C h 3) (gH C h 5) (gS C 3)).1) P1 Od T2 P2) := by
  obtain ⟨a, m⟩ := T1
  have j98 : mJ k_X6_list 98 [.ref 18, .ref 1, .int h, .int (gH C h 9), .int (gH C h 3), .int (gH C h 5)] [] (cH C Hs Sw ((tr4 (tr1 (a, 0) (gH C h 9) (gS C 3)) (gH C h 3) (gH C h 5)).1) P1 Od T2 P2) none (cH C Hs Sw ((trL (a, 0) (gH C h 9) (gH C h 3) (gH C h 5) (gS C 3)).1) P1 Od T2 P2) := by
    exact mJ_vret dX6_list_98 rfl (rfl) (rfl)
  have j70 : mJ k_X6_list 70 [.ref 18, .ref 1, .int h, .int (gH C h 9), .int (gH C h 3), .int (gH C h 5)] [] (cH C Hs Sw ((tr3 (tr1 (a, 0) (gH C h 9) (gS C 3)) (gH C h 3) (gH C h 5)).1) P1 Od T2 P2) none (cH C Hs Sw ((trL (a, 0) (gH C h 9) (gH C h 3) (gH C h 5) (gS C 3)).1) P1 Od T2 P2) := by
    refine mJ_iload dX6_list_70 rfl ?_
    refine mJ_iconst (v := 2) dX6_list_72 rfl ?_
    refine mJ_icmp_ne 98 dX6_list_73 rfl (fun c_73 => ?_) (fun c_73 => ?_)
    · exact mJ_tr18 (T' := (tr4 (tr1 (a, 0) (gH C h 9) (gS C 3)) (gH C h 3) (gH C h 5)).1) (by unfold tr4; rw [if_neg c_73]) j98
    · refine mJ_aload_n dX6_list_76 rfl ?_
      refine mJ_iload dX6_list_77 rfl ?_
      refine mJ_iconst (v := 1) dX6_list_79 rfl ?_
      refine mJ_iadd dX6_list_80 ?_
      refine mJ_iconst (v := 4) dX6_list_81 rfl ?_
      refine mJ_irem dX6_list_82 (by decide) ?_
      refine mJ_cV1v dX6_list_83 e_X6_add n_X6_34 ⟨Nat.le_of_ble_eq_true rfl, Nat.le_of_ble_eq_true rfl⟩ rfl rfl (Nat.le_of_ble_eq_true rfl) (C_X6_add_18 (L := (tr3 (tr1 (a, 0) (gH C h 9) (gS C 3)) (gH C h 3) (gH C h 5)).2) (trL_ok0 a).1) ?_
      refine mJ_aload_n dX6_list_86 rfl ?_
      refine mJ_iload dX6_list_87 rfl ?_
      refine mJ_iconst (v := 4) dX6_list_89 rfl ?_
      refine mJ_iadd dX6_list_90 ?_
      refine mJ_iconst (v := 1) dX6_list_91 rfl ?_
      refine mJ_isub dX6_list_92 ?_
      refine mJ_iconst (v := 4) dX6_list_93 rfl ?_
      refine mJ_irem dX6_list_94 (by decide) ?_
      refine mJ_cV1v dX6_list_95 e_X6_add n_X6_34 ⟨Nat.le_of_ble_eq_true rfl, Nat.le_of_ble_eq_true rfl⟩ rfl rfl (Nat.le_of_ble_eq_true rfl) (C_X6_add_18 (L := (stT (tr3 (tr1 (a, 0) (gH C h 9) (gS C 3)) (gH C h 3) (gH C h 5)) (m4 (gH C h 3 + 1))).2) (trL_ok0 a).2) ?_
      exact mJ_tr18 (T' := (tr4 (tr1 (a, 0) (gH C h 9) (gS C 3)) (gH C h 3) (gH C h 5)).1) (by unfold tr4; rw [if_pos c_73]; rfl) j98
  have j32 : mJ k_X6_list 32 [.ref 18, .ref 1, .int h, .int (gH C h 9), .null, .null] [] (cH C Hs Sw ((tr1 (a, 0) (gH C h 9) (gS C 3)).1) P1 Od T2 P2) none (cH C Hs Sw ((trL (a, 0) (gH C h 9) (gH C h 3) (gH C h 5) (gS C 3)).1) P1 Od T2 P2) := by
    refine mJ_aload_n dX6_list_32 rfl ?_
    refine mJ_iload_n dX6_list_33 rfl ?_
    refine mJ_iconst (v := 3) dX6_list_34 rfl ?_
    refine mJ_cV2i dX6_list_35 e_X5_hintValue n_X6_24 ⟨Nat.le_of_ble_eq_true rfl, Nat.le_of_ble_eq_true rfl⟩ rfl rfl (Nat.le_of_ble_eq_true rfl) (C_X5_hintValue) ?_
    refine mJ_istore dX6_list_38 (Nat.le_of_ble_eq_true rfl) (ls2 := [_, _, _, _, _, _]) rfl ?_
    refine mJ_aload_n dX6_list_40 rfl ?_
    refine mJ_iload_n dX6_list_41 rfl ?_
    refine mJ_iconst (v := 5) dX6_list_42 rfl ?_
    refine mJ_cV2i dX6_list_43 e_X5_hintValue n_X6_24 ⟨Nat.le_of_ble_eq_true rfl, Nat.le_of_ble_eq_true rfl⟩ rfl rfl (Nat.le_of_ble_eq_true rfl) (C_X5_hintValue) ?_
    refine mJ_istore dX6_list_46 (Nat.le_of_ble_eq_true rfl) (ls2 := [_, _, _, _, _, _]) rfl ?_
    refine mJ_aload_n dX6_list_48 rfl ?_
    refine mJ_iload dX6_list_49 rfl ?_
    refine mJ_cV1v dX6_list_51 e_X6_add n_X6_34 ⟨Nat.le_of_ble_eq_true rfl, Nat.le_of_ble_eq_true rfl⟩ rfl rfl (Nat.le_of_ble_eq_true rfl) (C_X6_add_18 (L := (tr1 (a, 0) (gH C h 9) (gS C 3)).2) (tr1_ok a (gH C h 9) (gS C 3)).1) ?_
    refine mJ_iload dX6_list_54 rfl ?_
    refine mJ_iconst (v := 1) dX6_list_56 rfl ?_
    refine mJ_icmp_lt 70 dX6_list_57 rfl (fun c_57 => ?_) (fun c_57 => ?_)
    · exact mJ_tr18 (T' := (tr3 (tr1 (a, 0) (gH C h 9) (gS C 3)) (gH C h 3) (gH C h 5)).1) (by unfold tr3; rw [if_pos c_57]; rfl) j70
    · refine mJ_aload_n dX6_list_60 rfl ?_
      refine mJ_iload dX6_list_61 rfl ?_
      refine mJ_iconst (v := 2) dX6_list_63 rfl ?_
      refine mJ_iadd dX6_list_64 ?_
      refine mJ_iconst (v := 4) dX6_list_65 rfl ?_
      refine mJ_irem dX6_list_66 (by decide) ?_
      refine mJ_cV1v dX6_list_67 e_X6_add n_X6_34 ⟨Nat.le_of_ble_eq_true rfl, Nat.le_of_ble_eq_true rfl⟩ rfl rfl (Nat.le_of_ble_eq_true rfl) (C_X6_add_18 (L := (stT (tr1 (a, 0) (gH C h 9) (gS C 3)) (gH C h 3)).2) (stT_ok (tr1_ok a (gH C h 9) (gS C 3)) (by omega)).1) ?_
      exact mJ_tr18 (T' := (tr3 (tr1 (a, 0) (gH C h 9) (gS C 3)) (gH C h 3) (gH C h 5)).1) (by unfold tr3; rw [if_neg c_57]; rfl) j70
  refine mCt_intro (plainFor_of_name rfl) (Nat.le_of_ble_eq_true rfl) (m_all rfl) (ls := [_, _, _, _, _, _]) rfl ?_
  refine mJ_aload_n dX6_list_0 rfl ?_
  refine mJ_iconst (v := 0) dX6_list_1 rfl ?_
  refine mJ_put_18_1 dX6_list_2 p_X6_20 ?_
  refine mJ_aload_n dX6_list_5 rfl ?_
  refine mJ_iload_n dX6_list_6 rfl ?_
  refine mJ_bipush (v := 9) dX6_list_7 rfl ?_
  refine mJ_cV2i dX6_list_9 e_X5_hintValue n_X6_24 ⟨Nat.le_of_ble_eq_true rfl, Nat.le_of_ble_eq_true rfl⟩ rfl rfl (Nat.le_of_ble_eq_true rfl) (C_X5_hintValue) ?_
  refine mJ_istore_n dX6_list_12 (Nat.le_of_ble_eq_true rfl) (ls2 := [_, _, _, _, _, _]) rfl ?_
  refine mJ_aload_n dX6_list_13 rfl ?_
  refine mJ_iconst (v := 3) dX6_list_14 rfl ?_
  refine mJ_cV1i dX6_list_15 e_X5_setting n_X6_30 ⟨Nat.le_of_ble_eq_true rfl, Nat.le_of_ble_eq_true rfl⟩ rfl rfl (Nat.le_of_ble_eq_true rfl) (C_X5_setting) ?_
  refine mJ_iconst (v := 1) dX6_list_18 rfl ?_
  refine mJ_icmp_ne 32 dX6_list_19 rfl (fun c_19 => ?_) (fun c_19 => ?_)
  · exact mJ_tr18 (T' := (tr1 (a, 0) (gH C h 9) (gS C 3)).1) (by unfold tr1; rw [if_neg c_19]) j32
  · refine mJ_iload_n dX6_list_22 rfl ?_
    refine mJ_iconst (v := (-1)) dX6_list_23 rfl ?_
    refine mJ_icmp_eq 32 dX6_list_24 rfl (fun c_24 => ?_) (fun c_24 => ?_)
    · exact mJ_tr18 (T' := (tr1 (a, 0) (gH C h 9) (gS C 3)).1) (by unfold tr1; rw [if_pos c_19, if_pos c_24]) j32
    · refine mJ_aload_n dX6_list_27 rfl ?_
      refine mJ_iload_n dX6_list_28 rfl ?_
      refine mJ_cV1v dX6_list_29 e_X6_add n_X6_34 ⟨Nat.le_of_ble_eq_true rfl, Nat.le_of_ble_eq_true rfl⟩ rfl rfl (Nat.le_of_ble_eq_true rfl) (C_X6_add_18 (L := []) (tL0 a)) ?_
      exact mJ_tr18 (T' := (tr1 (a, 0) (gH C h 9) (gS C 3)).1) (by unfold tr1; rw [if_pos c_19, if_neg c_24]; rfl) j32
set_option maxHeartbeats 4000000 in
set_option maxRecDepth 100000 in
theorem L_X6_add_25 {C : aF} {Hs : tH} {Sw : tS} {T1 : tT} {P1 : tP} {Od : tO} {P2 : tP} {a : aF} {m s : Int32} {L : List Int32} (hT : tL (a, m) L) : ∀ (n k : Nat), k + n = L.length → (∀ j, j < k → L[j]? ≠ some s) → mJ k_X6_add 2 [.ref 25, .int s, .int (nI k)] [] (cH C Hs Sw T1 P1 Od (a, m) P2) none (cH C Hs Sw T1 P1 Od (addT (a, m) L s) P2) := by
  have h1 : m = nI L.length := hT.1
  intro n
  induction n with
  | zero =>
    intro k hk hno
    have hm : ¬ s ∈ L := fun hs => by
      obtain ⟨j, hj⟩ := List.getElem?_of_mem hs
      have := (List.getElem?_eq_some_iff.mp hj).1
      exact hno j (by omega) hj
    have hk : k = L.length := by omega
    refine mJ_iload_n dX6_add_2 rfl ?_
    refine mJ_aload_n dX6_add_3 rfl ?_
    refine mJ_get_25_1 dX6_add_4 f_X6_20 ?_
    refine mJ_icmp_ge 29 dX6_add_7 rfl (fun c_7 => ?_) (fun c_7 => False.elim (by exact c_7 (by rw [h1, ← hk]; exact Int32.le_refl _)))
    refine mJ_aload_n dX6_add_29 rfl ?_
    refine mJ_get dX6_add_30 f_X6_14 rfl rfl ?_
    refine mJ_aload_n dX6_add_33 rfl ?_
    refine mJ_get_25_1 dX6_add_34 f_X6_20 ?_
    refine mJ_iload_n dX6_add_37 rfl ?_
    refine mJ_cV2v dX6_add_38 e_X3_put n_X6_40 ⟨Nat.le_of_ble_eq_true rfl, Nat.le_of_ble_eq_true rfl⟩ rfl rfl (Nat.le_of_ble_eq_true rfl) (C_put_27 (T2 := (a, m))) ?_
    refine mJ_aload_n dX6_add_41 rfl ?_
    refine mJ_dup dX6_add_42 rfl ?_
    refine mJ_get_25_1 dX6_add_43 f_X6_20 ?_
    refine mJ_iconst (v := 1) dX6_add_46 rfl ?_
    refine mJ_iadd dX6_add_47 ?_
    refine mJ_put_25_1 dX6_add_48 p_X6_20 ?_
    exact mJ_vret dX6_add_51 rfl (rfl) (by simp [addT, hm])
  | succ n ih =>
    intro k hk0 hno
    have hk : k < L.length := by omega
    obtain ⟨w, hw⟩ : ∃ w, L[k]? = some w := ⟨_, List.getElem?_eq_getElem hk⟩
    have hv : rg 4 a (nI k) = w := by rw [rg_in a (by have := hT.2.1; omega) (by omega)]; exact hT.2.2 k w hw
    refine mJ_iload_n dX6_add_2 rfl ?_
    refine mJ_aload_n dX6_add_3 rfl ?_
    refine mJ_get_25_1 dX6_add_4 f_X6_20 ?_
    refine mJ_icmp_ge 29 dX6_add_7 rfl (fun c_7 => False.elim (by rw [h1] at c_7; exact nI_ge hk (by have := hT.2.1; omega) c_7)) (fun c_7 => ?_)
    refine mJ_aload_n dX6_add_10 rfl ?_
    refine mJ_get dX6_add_11 f_X6_14 rfl rfl ?_
    refine mJ_iload_n dX6_add_14 rfl ?_
    refine mJ_cV1i dX6_add_15 e_X3_get n_X6_37 ⟨Nat.le_of_ble_eq_true rfl, Nat.le_of_ble_eq_true rfl⟩ rfl rfl (Nat.le_of_ble_eq_true rfl) (C_X3_get rfl rfl (Nat.le_of_ble_eq_true rfl)) ?_
    refine mJ_top hv ?_
    refine mJ_iload_n dX6_add_18 rfl ?_
    refine mJ_icmp_ne 23 dX6_add_19 rfl (fun c_19 => ?_) (fun c_19 => ?_)
    · refine mJ_iinc dX6_add_23 rfl (Nat.le_of_ble_eq_true rfl) (v := nI (k + 1)) (nI_1 k) (ls2 := [_, _, _]) rfl ?_
      refine mJ_goto 2 dX6_add_26 rfl ?_
      refine ih (k + 1) (by omega) (fun j hj => ?_)
      rcases Nat.lt_or_ge j k with q | q
      · exact hno j q
      · rw [show j = k by omega, hw]; intro e; exact c_19 (Option.some.inj e)
    · exact mJ_vret dX6_add_22 rfl (rfl) (by simp [addT, List.mem_of_getElem? (c_19 ▸ hw)])
set_option maxHeartbeats 4000000 in
set_option maxRecDepth 100000 in
theorem C_X6_add_25 {C : aF} {Hs : tH} {Sw : tS} {T1 : tT} {P1 : tP} {Od : tO} {T2 : tT} {P2 : tP} {s : Int32} {L : List Int32} (hT : tL T2 L) : mCt k_X6_add [.ref 25, .int s] (cH C Hs Sw T1 P1 Od T2 P2) none (cH C Hs Sw T1 P1 Od (addT T2 L s) P2) := by
  obtain ⟨a, m⟩ := T2
  refine mCt_intro (plainFor_of_name rfl) (Nat.le_of_ble_eq_true rfl) (m_all rfl) (ls := [_, _, _]) rfl ?_
  refine mJ_iconst (v := 0) dX6_add_0 rfl ?_
  refine mJ_istore_n dX6_add_1 (Nat.le_of_ble_eq_true rfl) (ls2 := [_, _, _]) rfl ?_
  exact L_X6_add_25 hT L.length 0 (by omega) (fun j hj => absurd hj (by omega))
theorem mJ_tr25 {M : mM} {pc : Nat} {ls st : List Value} {h' : List mC} {r : Option Value} {C : aF} {Hs : tH} {Sw : tS} {T1 : tT} {P1 : tP} {Od : tO} {T2 : tT} {P2 : tP} {T' : tT} (e : T' = T2) (kk : mJ M pc ls st (cH C Hs Sw T1 P1 Od (T') P2) r h') : mJ M pc ls st (cH C Hs Sw T1 P1 Od T2 P2) r h' := e ▸ kk
set_option maxHeartbeats 4000000 in
set_option maxRecDepth 100000 in
theorem C_X6_list_25 {C : aF} {Hs : tH} {Sw : tS} {T1 : tT} {P1 : tP} {Od : tO} {T2 : tT} {P2 : tP} {h : Int32} : mCt k_X6_list [.ref 25, .ref 1, .int h] (cH C Hs Sw T1 P1 Od T2 P2) none (cH C Hs Sw T1 P1 Od ((trL (T2.1, 0) (gH C h 9) (gH C h 3) (gH C h 5) (gS C 3)).1) P2) := by
  obtain ⟨a, m⟩ := T2
  have j98 : mJ k_X6_list 98 [.ref 25, .ref 1, .int h, .int (gH C h 9), .int (gH C h 3), .int (gH C h 5)] [] (cH C Hs Sw T1 P1 Od ((tr4 (tr1 (a, 0) (gH C h 9) (gS C 3)) (gH C h 3) (gH C h 5)).1) P2) none (cH C Hs Sw T1 P1 Od ((trL (a, 0) (gH C h 9) (gH C h 3) (gH C h 5) (gS C 3)).1) P2) := by
    exact mJ_vret dX6_list_98 rfl (rfl) (rfl)
  have j70 : mJ k_X6_list 70 [.ref 25, .ref 1, .int h, .int (gH C h 9), .int (gH C h 3), .int (gH C h 5)] [] (cH C Hs Sw T1 P1 Od ((tr3 (tr1 (a, 0) (gH C h 9) (gS C 3)) (gH C h 3) (gH C h 5)).1) P2) none (cH C Hs Sw T1 P1 Od ((trL (a, 0) (gH C h 9) (gH C h 3) (gH C h 5) (gS C 3)).1) P2) := by
    refine mJ_iload dX6_list_70 rfl ?_
    refine mJ_iconst (v := 2) dX6_list_72 rfl ?_
    refine mJ_icmp_ne 98 dX6_list_73 rfl (fun c_73 => ?_) (fun c_73 => ?_)
    · exact mJ_tr25 (T' := (tr4 (tr1 (a, 0) (gH C h 9) (gS C 3)) (gH C h 3) (gH C h 5)).1) (by unfold tr4; rw [if_neg c_73]) j98
    · refine mJ_aload_n dX6_list_76 rfl ?_
      refine mJ_iload dX6_list_77 rfl ?_
      refine mJ_iconst (v := 1) dX6_list_79 rfl ?_
      refine mJ_iadd dX6_list_80 ?_
      refine mJ_iconst (v := 4) dX6_list_81 rfl ?_
      refine mJ_irem dX6_list_82 (by decide) ?_
      refine mJ_cV1v dX6_list_83 e_X6_add n_X6_34 ⟨Nat.le_of_ble_eq_true rfl, Nat.le_of_ble_eq_true rfl⟩ rfl rfl (Nat.le_of_ble_eq_true rfl) (C_X6_add_25 (L := (tr3 (tr1 (a, 0) (gH C h 9) (gS C 3)) (gH C h 3) (gH C h 5)).2) (trL_ok0 a).1) ?_
      refine mJ_aload_n dX6_list_86 rfl ?_
      refine mJ_iload dX6_list_87 rfl ?_
      refine mJ_iconst (v := 4) dX6_list_89 rfl ?_
      refine mJ_iadd dX6_list_90 ?_
      refine mJ_iconst (v := 1) dX6_list_91 rfl ?_
      refine mJ_isub dX6_list_92 ?_
      refine mJ_iconst (v := 4) dX6_list_93 rfl ?_
      refine mJ_irem dX6_list_94 (by decide) ?_
      refine mJ_cV1v dX6_list_95 e_X6_add n_X6_34 ⟨Nat.le_of_ble_eq_true rfl, Nat.le_of_ble_eq_true rfl⟩ rfl rfl (Nat.le_of_ble_eq_true rfl) (C_X6_add_25 (L := (stT (tr3 (tr1 (a, 0) (gH C h 9) (gS C 3)) (gH C h 3) (gH C h 5)) (m4 (gH C h 3 + 1))).2) (trL_ok0 a).2) ?_
      exact mJ_tr25 (T' := (tr4 (tr1 (a, 0) (gH C h 9) (gS C 3)) (gH C h 3) (gH C h 5)).1) (by unfold tr4; rw [if_pos c_73]; rfl) j98
  have j32 : mJ k_X6_list 32 [.ref 25, .ref 1, .int h, .int (gH C h 9), .null, .null] [] (cH C Hs Sw T1 P1 Od ((tr1 (a, 0) (gH C h 9) (gS C 3)).1) P2) none (cH C Hs Sw T1 P1 Od ((trL (a, 0) (gH C h 9) (gH C h 3) (gH C h 5) (gS C 3)).1) P2) := by
    refine mJ_aload_n dX6_list_32 rfl ?_
    refine mJ_iload_n dX6_list_33 rfl ?_
    refine mJ_iconst (v := 3) dX6_list_34 rfl ?_
    refine mJ_cV2i dX6_list_35 e_X5_hintValue n_X6_24 ⟨Nat.le_of_ble_eq_true rfl, Nat.le_of_ble_eq_true rfl⟩ rfl rfl (Nat.le_of_ble_eq_true rfl) (C_X5_hintValue) ?_
    refine mJ_istore dX6_list_38 (Nat.le_of_ble_eq_true rfl) (ls2 := [_, _, _, _, _, _]) rfl ?_
    refine mJ_aload_n dX6_list_40 rfl ?_
    refine mJ_iload_n dX6_list_41 rfl ?_
    refine mJ_iconst (v := 5) dX6_list_42 rfl ?_
    refine mJ_cV2i dX6_list_43 e_X5_hintValue n_X6_24 ⟨Nat.le_of_ble_eq_true rfl, Nat.le_of_ble_eq_true rfl⟩ rfl rfl (Nat.le_of_ble_eq_true rfl) (C_X5_hintValue) ?_
    refine mJ_istore dX6_list_46 (Nat.le_of_ble_eq_true rfl) (ls2 := [_, _, _, _, _, _]) rfl ?_
    refine mJ_aload_n dX6_list_48 rfl ?_
    refine mJ_iload dX6_list_49 rfl ?_
    refine mJ_cV1v dX6_list_51 e_X6_add n_X6_34 ⟨Nat.le_of_ble_eq_true rfl, Nat.le_of_ble_eq_true rfl⟩ rfl rfl (Nat.le_of_ble_eq_true rfl) (C_X6_add_25 (L := (tr1 (a, 0) (gH C h 9) (gS C 3)).2) (tr1_ok a (gH C h 9) (gS C 3)).1) ?_
    refine mJ_iload dX6_list_54 rfl ?_
    refine mJ_iconst (v := 1) dX6_list_56 rfl ?_
    refine mJ_icmp_lt 70 dX6_list_57 rfl (fun c_57 => ?_) (fun c_57 => ?_)
    · exact mJ_tr25 (T' := (tr3 (tr1 (a, 0) (gH C h 9) (gS C 3)) (gH C h 3) (gH C h 5)).1) (by unfold tr3; rw [if_pos c_57]; rfl) j70
    · refine mJ_aload_n dX6_list_60 rfl ?_
      refine mJ_iload dX6_list_61 rfl ?_
      refine mJ_iconst (v := 2) dX6_list_63 rfl ?_
      refine mJ_iadd dX6_list_64 ?_
      refine mJ_iconst (v := 4) dX6_list_65 rfl ?_
      refine mJ_irem dX6_list_66 (by decide) ?_
      refine mJ_cV1v dX6_list_67 e_X6_add n_X6_34 ⟨Nat.le_of_ble_eq_true rfl, Nat.le_of_ble_eq_true rfl⟩ rfl rfl (Nat.le_of_ble_eq_true rfl) (C_X6_add_25 (L := (stT (tr1 (a, 0) (gH C h 9) (gS C 3)) (gH C h 3)).2) (stT_ok (tr1_ok a (gH C h 9) (gS C 3)) (by omega)).1) ?_
      exact mJ_tr25 (T' := (tr3 (tr1 (a, 0) (gH C h 9) (gS C 3)) (gH C h 3) (gH C h 5)).1) (by unfold tr3; rw [if_neg c_57]; rfl) j70
  refine mCt_intro (plainFor_of_name rfl) (Nat.le_of_ble_eq_true rfl) (m_all rfl) (ls := [_, _, _, _, _, _]) rfl ?_
  refine mJ_aload_n dX6_list_0 rfl ?_
  refine mJ_iconst (v := 0) dX6_list_1 rfl ?_
  refine mJ_put_25_1 dX6_list_2 p_X6_20 ?_
  refine mJ_aload_n dX6_list_5 rfl ?_
  refine mJ_iload_n dX6_list_6 rfl ?_
  refine mJ_bipush (v := 9) dX6_list_7 rfl ?_
  refine mJ_cV2i dX6_list_9 e_X5_hintValue n_X6_24 ⟨Nat.le_of_ble_eq_true rfl, Nat.le_of_ble_eq_true rfl⟩ rfl rfl (Nat.le_of_ble_eq_true rfl) (C_X5_hintValue) ?_
  refine mJ_istore_n dX6_list_12 (Nat.le_of_ble_eq_true rfl) (ls2 := [_, _, _, _, _, _]) rfl ?_
  refine mJ_aload_n dX6_list_13 rfl ?_
  refine mJ_iconst (v := 3) dX6_list_14 rfl ?_
  refine mJ_cV1i dX6_list_15 e_X5_setting n_X6_30 ⟨Nat.le_of_ble_eq_true rfl, Nat.le_of_ble_eq_true rfl⟩ rfl rfl (Nat.le_of_ble_eq_true rfl) (C_X5_setting) ?_
  refine mJ_iconst (v := 1) dX6_list_18 rfl ?_
  refine mJ_icmp_ne 32 dX6_list_19 rfl (fun c_19 => ?_) (fun c_19 => ?_)
  · exact mJ_tr25 (T' := (tr1 (a, 0) (gH C h 9) (gS C 3)).1) (by unfold tr1; rw [if_neg c_19]) j32
  · refine mJ_iload_n dX6_list_22 rfl ?_
    refine mJ_iconst (v := (-1)) dX6_list_23 rfl ?_
    refine mJ_icmp_eq 32 dX6_list_24 rfl (fun c_24 => ?_) (fun c_24 => ?_)
    · exact mJ_tr25 (T' := (tr1 (a, 0) (gH C h 9) (gS C 3)).1) (by unfold tr1; rw [if_pos c_19, if_pos c_24]) j32
    · refine mJ_aload_n dX6_list_27 rfl ?_
      refine mJ_iload_n dX6_list_28 rfl ?_
      refine mJ_cV1v dX6_list_29 e_X6_add n_X6_34 ⟨Nat.le_of_ble_eq_true rfl, Nat.le_of_ble_eq_true rfl⟩ rfl rfl (Nat.le_of_ble_eq_true rfl) (C_X6_add_25 (L := []) (tL0 a)) ?_
      exact mJ_tr25 (T' := (tr1 (a, 0) (gH C h 9) (gS C 3)).1) (by unfold tr1; rw [if_pos c_19, if_neg c_24]; rfl) j32
