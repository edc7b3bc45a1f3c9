/-! THE REFERENCE: what bars a hint, the first side, the order, all hints shown or waiting -/
def wD (d : aF) (nA nH nO : Nat) : Prop := nA ≤ 10 ∧ nH ≤ 12 ∧ nO ≤ 12 ∧ d 9 = nI nA ∧ d 50 = nI nH ∧ d 147 = nI nO ∧ (∀ h, h < nH → ∃ a, a < nA ∧ dH d h 0 = nI a) ∧ (∀ h, h < nH → sd (dH d h 3)) ∧ (∀ h, h < nH → d (160 + h) = -1 ∨ sd (d (160 + h))) ∧ (∀ j, j < nO → ∃ h, h < nH ∧ d (148 + j) = nI h)
def oA (d : aF) (x y w t : Int32) (k : Nat) : Prop := d 8 = 1 ∧ ∃ a, a < k ∧ q_mt x y w t (dA d a 0) (dA d a 1) (dA d a 2) (dA d a 3)
def oH (d on : aF) (x y w t : Int32) (k : Nat) : Prop := ∃ o, o < k ∧ ¬ on o = -1 ∧ q_mt x y w t (p_x d o (on o)) (p_y d o (on o)) (dH d o 1) (dH d o 2)
def oB (d on : aF) (nA nH : Nat) (x y w t : Int32) : Prop := oA d x y w t nA ∨ oH d on x y w t nH
theorem oA_s {d : aF} {x y w t : Int32} {k : Nat} : oA d x y w t (k + 1) ↔ (oA d x y w t k ∨ (d 8 = 1 ∧ q_mt x y w t (dA d k 0) (dA d k 1) (dA d k 2) (dA d k 3))) := by
  constructor
  · rintro ⟨h1, a, ha, h2⟩
    by_cases q : a = k
    · subst q; exact Or.inr ⟨h1, h2⟩
    · exact Or.inl ⟨h1, a, by omega, h2⟩
  · rintro (⟨h1, a, ha, h2⟩ | ⟨h1, h2⟩)
    · exact ⟨h1, a, by omega, h2⟩
    · exact ⟨h1, k, by omega, h2⟩
theorem oH_s {d on : aF} {x y w t : Int32} {k : Nat} : oH d on x y w t (k + 1) ↔ (oH d on x y w t k ∨ (¬ on k = -1 ∧ q_mt x y w t (p_x d k (on k)) (p_y d k (on k)) (dH d k 1) (dH d k 2))) := by
  constructor
  · rintro ⟨a, ha, h1, h2⟩
    by_cases q : a = k
    · subst q; exact Or.inr ⟨h1, h2⟩
    · exact Or.inl ⟨a, by omega, h1, h2⟩
  · rintro (⟨a, ha, h1, h2⟩ | ⟨h1, h2⟩)
    · exact ⟨a, by omega, h1, h2⟩
    · exact ⟨k, by omega, h1, h2⟩
theorem oA_0 {d : aF} {x y w t : Int32} : ¬ oA d x y w t 0 := fun ⟨_, a, ha, _⟩ => absurd ha (by omega)
theorem oH_0 {d on : aF} {x y w t : Int32} : ¬ oH d on x y w t 0 := fun ⟨a, ha, _⟩ => absurd ha (by omega)
theorem sd_ne {s : Int32} (h : sd s) : ¬ s = -1 := by rcases h with rfl | rfl | rfl | rfl <;> decide
/-- a list of hints tried on the sides of a list: reason, side -/
noncomputable def p_try (d on : aF) (nA nH h : Nat) : List Int32 → Int32 → Int32 × Int32
  | [], r => (r, -1)
  | s :: L, r => iif (p_in d h s) (iif (oB d on nA nH (p_x d h s) (p_y d h s) (dH d h 1) (dH d h 2)) (p_try d on nA nH h L 4) (0, s)) (p_try d on nA nH h L r)
def tryL (d : aF) (h : Nat) : List Int32 := (trU ((fun _ => 0), 0) (d (160 + h)) (dH d h 3) (dH d h 5) (d 7)).2
theorem trU_2 (T T' : tT) (rm own fl re : Int32) : (trU T rm own fl re).2 = (trU T' rm own fl re).2 := by
  have h1 : (tu1 T rm re).2 = (tu1 T' rm re).2 := by
    unfold tu1
    split
    · split <;> rfl
    · rfl
  have h3 : ∀ (p p' : tT × List Int32), p.2 = p'.2 → (tu3 p own fl).2 = (tu3 p' own fl).2 := by
    intro p p' e
    unfold tu3
    split
    · show addL p.2 own = addL p'.2 own; rw [e]
    · show addL (addL p.2 own) _ = addL (addL p'.2 own) _; rw [e]
  unfold trU tu4
  split
  · show addL (addL (tu3 _ own fl).2 _) _ = addL (addL (tu3 _ own fl).2 _) _
    rw [h3 _ _ h1]
  · exact h3 _ _ h1
theorem addL_sd {L : List Int32} {s : Int32} (h : ∀ x ∈ L, sd x) (hs : sd s) : ∀ x ∈ addL L s, sd x := by
  unfold addL
  split
  · exact h
  · intro x hx
    rcases List.mem_append.mp hx with q | q
    · exact h x q
    · rw [List.mem_singleton.mp q]; exact hs
theorem sd_m4 {s : Int32} (h : sd s) : sd (m4 (s + 1)) ∧ sd (m4 (s + 2)) ∧ sd (m4 (s + 3)) := by rcases h with rfl | rfl | rfl | rfl <;> exact ⟨by unfold sd; decide, by unfold sd; decide, by unfold sd; decide⟩
theorem tryL_sd {d : aF} {h : Nat} (h1 : sd (dH d h 3)) (h2 : d (160 + h) = -1 ∨ sd (d (160 + h))) : ∀ s ∈ tryL d h, sd s := by
  have key : ∀ (T : tT) (fl re rm own : Int32), sd own → (rm = -1 ∨ sd rm) → ∀ s ∈ (trU T rm own fl re).2, sd s := by
    intro T fl re rm own ho hr
    have a1 : ∀ s ∈ (tu1 T rm re).2, sd s := by
      unfold tu1
      split
      · split
        · intro s hs; cases hs
        · rename_i _ hne
          exact addL_sd (fun x hx => absurd hx List.not_mem_nil) (hr.resolve_left hne)
      · intro s hs; cases hs
    have a3 : ∀ s ∈ (tu3 (tu1 T rm re) own fl).2, sd s := by
      unfold tu3
      split
      · exact addL_sd a1 ho
      · exact addL_sd (addL_sd a1 ho) (sd_m4 ho).2.1
    unfold trU tu4
    split
    · exact addL_sd (addL_sd a3 (sd_m4 ho).1) (sd_m4 ho).2.2
    · exact a3
  exact key _ _ _ _ _ h1 h2
set_option maxHeartbeats 4000000 in
set_option maxRecDepth 100000 in
theorem L_X8_isBarred_2 {d was text ord why son tri : aF} {sta typ at_ sig fst snd rea shn trs : Int32} {nA nH nO : Nat} (hw : wD d nA nH nO) (hon : ∀ o, o < nH → son o = -1 ∨ sd (son o)) {h : Nat} {x y w t : Int32} : ∀ (m k : Nat) (b lef top shf arr goo : Int32), k + m = nH → b = b2i (oA d x y w t nA ∨ oH d son x y w t k) → ∃ lef' top' shf' arr' goo' : Int32, mJ k_X8_isBarred 116 [.ref 0, .int (nI h), .int x, .int y, .int w, .int t, .int b, .int (nI k)] [] (mH d was sta text typ at_ sig fst snd rea lef top shf arr goo ord why son shn tri trs) (some (.int (b2i (oB d son nA nH x y w t)))) (mH d was sta text typ at_ sig fst snd rea (lef') (top') (shf') (arr') (goo') ord why son shn tri trs) := by
  obtain ⟨w1, w2, w3, w4, w5, w6, w7, w8, w9, w10⟩ := id hw
  intro m
  induction m with
  | zero =>
    intro k b lef top shf arr goo hk hb
    refine ⟨lef, top, shf, arr, goo, ?_⟩
    refine mJ_iload dX8_isBarred_116 rfl ?_
    refine mJ_aload_n dX8_isBarred_118 rfl ?_
    refine mJ_get dX8_isBarred_119 f_X8_7 rfl rfl ?_
    refine mJ_bipush (v := 50) dX8_isBarred_122 rfl ?_
    refine mJ_ialdN dX8_isBarred_124 rfl (j := 50) ⟨rfl, by decide, by decide⟩ ?_
    refine mJ_icmp_ge 204 dX8_isBarred_125 rfl (fun c_125 => ?_) (fun c_125 => False.elim (by exact c_125 (by rw [w5, show k = nH by omega]; exact Int32.le_refl _)))
    refine mJ_iload dX8_isBarred_204 rfl ?_
    exact mJ_zret dX8_isBarred_206 rfl (by rw [hb]; exact b2i_01 _) (by rw [hb, show k = nH by omega]; rfl) (rfl)
  | succ m ih =>
    intro k b lef top shf arr goo hk hb
    have hk1 : k < nH := by omega
    obtain ⟨a, ha1, ha2⟩ := w7 k hk1
    have hh : k < 12 := by omega
    by_cases g1 : son k = -1
    · obtain ⟨l1, t1, s1, a1, o1, hj⟩ := ih (k + 1) b lef top shf arr goo (by omega) (by rw [hb]; exact b2i_eq (or_congr_right (oH_s.trans (or_iff_left (fun z => z.1 g1))).symm))
      refine ⟨l1, t1, s1, a1, o1, ?_⟩
      refine mJ_iload dX8_isBarred_116 rfl ?_
      refine mJ_aload_n dX8_isBarred_118 rfl ?_
      refine mJ_get dX8_isBarred_119 f_X8_7 rfl rfl ?_
      refine mJ_bipush (v := 50) dX8_isBarred_122 rfl ?_
      refine mJ_ialdN dX8_isBarred_124 rfl (j := 50) ⟨rfl, by decide, by decide⟩ ?_
      refine mJ_icmp_ge 204 dX8_isBarred_125 rfl (fun c_125 => False.elim (by rw [w5] at c_125; exact nI_ge (show k < nH by omega) (by omega) c_125)) (fun c_125 => ?_)
      refine mJ_aload_n dX8_isBarred_128 rfl ?_
      refine mJ_get dX8_isBarred_129 f_X8_26 rfl rfl ?_
      refine mJ_iload dX8_isBarred_132 rfl ?_
      refine mJ_ialdN dX8_isBarred_134 rfl (j := k) ⟨rfl, by omega, by omega⟩ ?_
      refine mJ_iconst (v := (-1)) dX8_isBarred_135 rfl ?_
      refine mJ_icmp_eq 198 dX8_isBarred_136 rfl (fun c_136 => ?_) (fun c_136 => False.elim (by exact c_136 g1))
      refine mJ_iinc dX8_isBarred_198 rfl (Nat.le_of_ble_eq_true rfl) (v := nI (k + 1)) (nI_1 k) (ls2 := [_, _, _, _, _, _, _, _]) rfl ?_
      refine mJ_goto 116 dX8_isBarred_201 rfl ?_
      exact hj
    · have hs := (hon k hk1).resolve_left g1
      by_cases g2 : (oA d x y w t nA ∨ oH d son x y w t k)
      · obtain ⟨l1, t1, s1, a1, o1, hj⟩ := ih (k + 1) 1 (p_x d k (son k)) (p_y d k (son k)) (p_sh d k (son k)) (p_ar d k (son k)) (b2i (p_gd d k (son k))) (by omega) (b2i_t (g2.imp_right (fun z => oH_s.mpr (Or.inl z)))).symm
        refine ⟨l1, t1, s1, a1, o1, ?_⟩
        refine mJ_iload dX8_isBarred_116 rfl ?_
        refine mJ_aload_n dX8_isBarred_118 rfl ?_
        refine mJ_get dX8_isBarred_119 f_X8_7 rfl rfl ?_
        refine mJ_bipush (v := 50) dX8_isBarred_122 rfl ?_
        refine mJ_ialdN dX8_isBarred_124 rfl (j := 50) ⟨rfl, by decide, by decide⟩ ?_
        refine mJ_icmp_ge 204 dX8_isBarred_125 rfl (fun c_125 => False.elim (by rw [w5] at c_125; exact nI_ge (show k < nH by omega) (by omega) c_125)) (fun c_125 => ?_)
        refine mJ_aload_n dX8_isBarred_128 rfl ?_
        refine mJ_get dX8_isBarred_129 f_X8_26 rfl rfl ?_
        refine mJ_iload dX8_isBarred_132 rfl ?_
        refine mJ_ialdN dX8_isBarred_134 rfl (j := k) ⟨rfl, by omega, by omega⟩ ?_
        refine mJ_iconst (v := (-1)) dX8_isBarred_135 rfl ?_
        refine mJ_icmp_eq 198 dX8_isBarred_136 rfl (fun c_136 => False.elim (by exact g1 c_136)) (fun c_136 => ?_)
        refine mJ_aload_n dX8_isBarred_139 rfl ?_
        refine mJ_iload dX8_isBarred_140 rfl ?_
        refine mJ_aload_n dX8_isBarred_142 rfl ?_
        refine mJ_get dX8_isBarred_143 f_X8_26 rfl rfl ?_
        refine mJ_iload dX8_isBarred_146 rfl ?_
        refine mJ_ialdN dX8_isBarred_148 rfl (j := k) ⟨rfl, by omega, by omega⟩ ?_
        refine mJ_cV2v dX8_isBarred_149 e_X8_places n_X8_79 ⟨Nat.le_of_ble_eq_true rfl, Nat.le_of_ble_eq_true rfl⟩ rfl rfl (Nat.le_of_ble_eq_true rfl) (C_X8_places hs hh ha2 (by omega)) ?_
        refine mJ_iload dX8_isBarred_152 rfl ?_
        refine mJ_top (hb.trans (b2i_t g2)) ?_
        refine mJ_if_ne 191 dX8_isBarred_154 rfl (fun _ => ?_) (fun c => absurd c (by decide))
        refine mJ_iconst (v := 1) dX8_isBarred_191 rfl ?_
        refine mJ_goto 196 dX8_isBarred_192 rfl ?_
        refine mJ_istore dX8_isBarred_196 (Nat.le_of_ble_eq_true rfl) (ls2 := [_, _, _, _, _, _, _, _]) rfl ?_
        refine mJ_iinc dX8_isBarred_198 rfl (Nat.le_of_ble_eq_true rfl) (v := nI (k + 1)) (nI_1 k) (ls2 := [_, _, _, _, _, _, _, _]) rfl ?_
        refine mJ_goto 116 dX8_isBarred_201 rfl ?_
        exact hj
      · by_cases g3 : q_mt x y w t (p_x d k (son k)) (p_y d k (son k)) (dH d k 1) (dH d k 2)
        · obtain ⟨l1, t1, s1, a1, o1, hj⟩ := ih (k + 1) 1 (p_x d k (son k)) (p_y d k (son k)) (p_sh d k (son k)) (p_ar d k (son k)) (b2i (p_gd d k (son k))) (by omega) (b2i_t (Or.inr (oH_s.mpr (Or.inr ⟨g1, g3⟩)))).symm
          refine ⟨l1, t1, s1, a1, o1, ?_⟩
          refine mJ_iload dX8_isBarred_116 rfl ?_
          refine mJ_aload_n dX8_isBarred_118 rfl ?_
          refine mJ_get dX8_isBarred_119 f_X8_7 rfl rfl ?_
          refine mJ_bipush (v := 50) dX8_isBarred_122 rfl ?_
          refine mJ_ialdN dX8_isBarred_124 rfl (j := 50) ⟨rfl, by decide, by decide⟩ ?_
          refine mJ_icmp_ge 204 dX8_isBarred_125 rfl (fun c_125 => False.elim (by rw [w5] at c_125; exact nI_ge (show k < nH by omega) (by omega) c_125)) (fun c_125 => ?_)
          refine mJ_aload_n dX8_isBarred_128 rfl ?_
          refine mJ_get dX8_isBarred_129 f_X8_26 rfl rfl ?_
          refine mJ_iload dX8_isBarred_132 rfl ?_
          refine mJ_ialdN dX8_isBarred_134 rfl (j := k) ⟨rfl, by omega, by omega⟩ ?_
          refine mJ_iconst (v := (-1)) dX8_isBarred_135 rfl ?_
          refine mJ_icmp_eq 198 dX8_isBarred_136 rfl (fun c_136 => False.elim (by exact g1 c_136)) (fun c_136 => ?_)
          refine mJ_aload_n dX8_isBarred_139 rfl ?_
          refine mJ_iload dX8_isBarred_140 rfl ?_
          refine mJ_aload_n dX8_isBarred_142 rfl ?_
          refine mJ_get dX8_isBarred_143 f_X8_26 rfl rfl ?_
          refine mJ_iload dX8_isBarred_146 rfl ?_
          refine mJ_ialdN dX8_isBarred_148 rfl (j := k) ⟨rfl, by omega, by omega⟩ ?_
          refine mJ_cV2v dX8_isBarred_149 e_X8_places n_X8_79 ⟨Nat.le_of_ble_eq_true rfl, Nat.le_of_ble_eq_true rfl⟩ rfl rfl (Nat.le_of_ble_eq_true rfl) (C_X8_places hs hh ha2 (by omega)) ?_
          refine mJ_iload dX8_isBarred_152 rfl ?_
          refine mJ_top (hb.trans (b2i_f g2)) ?_
          refine mJ_if_ne 191 dX8_isBarred_154 rfl (fun c => absurd c (by decide)) (fun _ => ?_)
          refine mJ_iload_n dX8_isBarred_157 rfl ?_
          refine mJ_iload_n dX8_isBarred_158 rfl ?_
          refine mJ_iload dX8_isBarred_159 rfl ?_
          refine mJ_iload dX8_isBarred_161 rfl ?_
          refine mJ_aload_n dX8_isBarred_163 rfl ?_
          refine mJ_get dX8_isBarred_164 f_X8_73 rfl rfl ?_
          refine mJ_aload_n dX8_isBarred_167 rfl ?_
          refine mJ_get dX8_isBarred_168 f_X8_76 rfl rfl ?_
          refine mJ_aload_n dX8_isBarred_171 rfl ?_
          refine mJ_iload dX8_isBarred_172 rfl ?_
          refine mJ_iconst (v := 1) dX8_isBarred_174 rfl ?_
          refine mJ_cV2i dX8_isBarred_175 e_X8_ofHint n_X8_52 ⟨Nat.le_of_ble_eq_true rfl, Nat.le_of_ble_eq_true rfl⟩ rfl rfl (Nat.le_of_ble_eq_true rfl) (C_X8_ofHint (w := 1) hh (by decide)) ?_
          refine mJ_aload_n dX8_isBarred_178 rfl ?_
          refine mJ_iload dX8_isBarred_179 rfl ?_
          refine mJ_iconst (v := 2) dX8_isBarred_181 rfl ?_
          refine mJ_cV2i dX8_isBarred_182 e_X8_ofHint n_X8_52 ⟨Nat.le_of_ble_eq_true rfl, Nat.le_of_ble_eq_true rfl⟩ rfl rfl (Nat.le_of_ble_eq_true rfl) (C_X8_ofHint (w := 2) hh (by decide)) ?_
          refine mJ_cS8i dX8_isBarred_185 e_X8_meets n_X8_44 ⟨Nat.le_of_ble_eq_true rfl, Nat.le_of_ble_eq_true rfl⟩ (Nat.le_of_ble_eq_true rfl) (C_X8_meets) ?_
          refine mJ_top (b2i_t g3) ?_
          refine mJ_if_eq 195 dX8_isBarred_188 rfl (fun c => absurd c (by decide)) (fun _ => ?_)
          refine mJ_iconst (v := 1) dX8_isBarred_191 rfl ?_
          refine mJ_goto 196 dX8_isBarred_192 rfl ?_
          refine mJ_istore dX8_isBarred_196 (Nat.le_of_ble_eq_true rfl) (ls2 := [_, _, _, _, _, _, _, _]) rfl ?_
          refine mJ_iinc dX8_isBarred_198 rfl (Nat.le_of_ble_eq_true rfl) (v := nI (k + 1)) (nI_1 k) (ls2 := [_, _, _, _, _, _, _, _]) rfl ?_
          refine mJ_goto 116 dX8_isBarred_201 rfl ?_
          exact hj
        · obtain ⟨l1, t1, s1, a1, o1, hj⟩ := ih (k + 1) 0 (p_x d k (son k)) (p_y d k (son k)) (p_sh d k (son k)) (p_ar d k (son k)) (b2i (p_gd d k (son k))) (by omega) (b2i_f (fun z => z.elim (fun z => g2 (Or.inl z)) (fun z => (oH_s.mp z).elim (fun z => g2 (Or.inr z)) (fun z => g3 z.2)))).symm
          refine ⟨l1, t1, s1, a1, o1, ?_⟩
          refine mJ_iload dX8_isBarred_116 rfl ?_
          refine mJ_aload_n dX8_isBarred_118 rfl ?_
          refine mJ_get dX8_isBarred_119 f_X8_7 rfl rfl ?_
          refine mJ_bipush (v := 50) dX8_isBarred_122 rfl ?_
          refine mJ_ialdN dX8_isBarred_124 rfl (j := 50) ⟨rfl, by decide, by decide⟩ ?_
          refine mJ_icmp_ge 204 dX8_isBarred_125 rfl (fun c_125 => False.elim (by rw [w5] at c_125; exact nI_ge (show k < nH by omega) (by omega) c_125)) (fun c_125 => ?_)
          refine mJ_aload_n dX8_isBarred_128 rfl ?_
          refine mJ_get dX8_isBarred_129 f_X8_26 rfl rfl ?_
          refine mJ_iload dX8_isBarred_132 rfl ?_
          refine mJ_ialdN dX8_isBarred_134 rfl (j := k) ⟨rfl, by omega, by omega⟩ ?_
          refine mJ_iconst (v := (-1)) dX8_isBarred_135 rfl ?_
          refine mJ_icmp_eq 198 dX8_isBarred_136 rfl (fun c_136 => False.elim (by exact g1 c_136)) (fun c_136 => ?_)
          refine mJ_aload_n dX8_isBarred_139 rfl ?_
          refine mJ_iload dX8_isBarred_140 rfl ?_
          refine mJ_aload_n dX8_isBarred_142 rfl ?_
          refine mJ_get dX8_isBarred_143 f_X8_26 rfl rfl ?_
          refine mJ_iload dX8_isBarred_146 rfl ?_
          refine mJ_ialdN dX8_isBarred_148 rfl (j := k) ⟨rfl, by omega, by omega⟩ ?_
          refine mJ_cV2v dX8_isBarred_149 e_X8_places n_X8_79 ⟨Nat.le_of_ble_eq_true rfl, Nat.le_of_ble_eq_true rfl⟩ rfl rfl (Nat.le_of_ble_eq_true rfl) (C_X8_places hs hh ha2 (by omega)) ?_
          refine mJ_iload dX8_isBarred_152 rfl ?_
          refine mJ_top (hb.trans (b2i_f g2)) ?_
          refine mJ_if_ne 191 dX8_isBarred_154 rfl (fun c => absurd c (by decide)) (fun _ => ?_)
          refine mJ_iload_n dX8_isBarred_157 rfl ?_
          refine mJ_iload_n dX8_isBarred_158 rfl ?_
          refine mJ_iload dX8_isBarred_159 rfl ?_
          refine mJ_iload dX8_isBarred_161 rfl ?_
          refine mJ_aload_n dX8_isBarred_163 rfl ?_
          refine mJ_get dX8_isBarred_164 f_X8_73 rfl rfl ?_
          refine mJ_aload_n dX8_isBarred_167 rfl ?_
          refine mJ_get dX8_isBarred_168 f_X8_76 rfl rfl ?_
          refine mJ_aload_n dX8_isBarred_171 rfl ?_
          refine mJ_iload dX8_isBarred_172 rfl ?_
          refine mJ_iconst (v := 1) dX8_isBarred_174 rfl ?_
          refine mJ_cV2i dX8_isBarred_175 e_X8_ofHint n_X8_52 ⟨Nat.le_of_ble_eq_true rfl, Nat.le_of_ble_eq_true rfl⟩ rfl rfl (Nat.le_of_ble_eq_true rfl) (C_X8_ofHint (w := 1) hh (by decide)) ?_
          refine mJ_aload_n dX8_isBarred_178 rfl ?_
          refine mJ_iload dX8_isBarred_179 rfl ?_
          refine mJ_iconst (v := 2) dX8_isBarred_181 rfl ?_
          refine mJ_cV2i dX8_isBarred_182 e_X8_ofHint n_X8_52 ⟨Nat.le_of_ble_eq_true rfl, Nat.le_of_ble_eq_true rfl⟩ rfl rfl (Nat.le_of_ble_eq_true rfl) (C_X8_ofHint (w := 2) hh (by decide)) ?_
          refine mJ_cS8i dX8_isBarred_185 e_X8_meets n_X8_44 ⟨Nat.le_of_ble_eq_true rfl, Nat.le_of_ble_eq_true rfl⟩ (Nat.le_of_ble_eq_true rfl) (C_X8_meets) ?_
          refine mJ_top (b2i_f g3) ?_
          refine mJ_if_eq 195 dX8_isBarred_188 rfl (fun _ => ?_) (fun c => absurd c (by decide))
          refine mJ_iconst (v := 0) dX8_isBarred_195 rfl ?_
          refine mJ_istore dX8_isBarred_196 (Nat.le_of_ble_eq_true rfl) (ls2 := [_, _, _, _, _, _, _, _]) rfl ?_
          refine mJ_iinc dX8_isBarred_198 rfl (Nat.le_of_ble_eq_true rfl) (v := nI (k + 1)) (nI_1 k) (ls2 := [_, _, _, _, _, _, _, _]) rfl ?_
          refine mJ_goto 116 dX8_isBarred_201 rfl ?_
          exact hj
set_option maxHeartbeats 4000000 in
set_option maxRecDepth 100000 in
theorem L_X8_isBarred_1 {d was text ord why son tri : aF} {sta typ at_ sig fst snd rea lef top shf arr goo shn trs : Int32} {nA nH nO : Nat} (hw : wD d nA nH nO) (hon : ∀ o, o < nH → son o = -1 ∨ sd (son o)) {h : Nat} {x y w t : Int32} : ∀ (m k : Nat) (b : Int32), k + m = nA → b = b2i (oA d x y w t k) → ∃ lef' top' shf' arr' goo' : Int32, mJ k_X8_isBarred 32 [.ref 0, .int (nI h), .int x, .int y, .int w, .int t, .int b, .int (nI k)] [] (mH d was sta text typ at_ sig fst snd rea lef top shf arr goo ord why son shn tri trs) (some (.int (b2i (oB d son nA nH x y w t)))) (mH d was sta text typ at_ sig fst snd rea (lef') (top') (shf') (arr') (goo') ord why son shn tri trs) := by
  obtain ⟨w1, w2, w3, w4, w5, w6, w7, w8, w9, w10⟩ := id hw
  intro m
  induction m with
  | zero =>
    intro k b hk hb
    obtain ⟨l1, t1, s1, a1, o1, hj⟩ := L_X8_isBarred_2 (x := x) (y := y) (w := w) (t := t) (was := was) (sta := sta) (text := text) (typ := typ) (at_ := at_) (sig := sig) (fst := fst) (snd := snd) (rea := rea) (ord := ord) (why := why) (shn := shn) (tri := tri) (trs := trs) (h := h) hw hon nH 0 b lef top shf arr goo (by omega) (by rw [hb, show k = nA by omega]; exact b2i_eq (or_iff_left oH_0).symm)
    refine ⟨l1, t1, s1, a1, o1, ?_⟩
    refine mJ_iload dX8_isBarred_32 rfl ?_
    refine mJ_aload_n dX8_isBarred_34 rfl ?_
    refine mJ_get dX8_isBarred_35 f_X8_7 rfl rfl ?_
    refine mJ_bipush (v := 9) dX8_isBarred_38 rfl ?_
    refine mJ_ialdN dX8_isBarred_40 rfl (j := 9) ⟨rfl, by decide, by decide⟩ ?_
    refine mJ_icmp_ge 113 dX8_isBarred_41 rfl (fun c_41 => ?_) (fun c_41 => False.elim (by exact c_41 (by rw [w4, show k = nA by omega]; exact Int32.le_refl _)))
    refine mJ_iconst (v := 0) dX8_isBarred_113 rfl ?_
    refine mJ_istore dX8_isBarred_114 (Nat.le_of_ble_eq_true rfl) (ls2 := [_, _, _, _, _, _, _, _]) rfl ?_
    exact hj
  | succ m ih =>
    intro k b hk hb
    have hk1 : k < nA := by omega
    have ha : k < 10 := by omega
    by_cases g1 : oA d x y w t k
    · obtain ⟨l1, t1, s1, a1, o1, hj⟩ := ih (k + 1) 1 (by omega) (b2i_t (oA_s.mpr (Or.inl g1))).symm
      refine ⟨l1, t1, s1, a1, o1, ?_⟩
      refine mJ_iload dX8_isBarred_32 rfl ?_
      refine mJ_aload_n dX8_isBarred_34 rfl ?_
      refine mJ_get dX8_isBarred_35 f_X8_7 rfl rfl ?_
      refine mJ_bipush (v := 9) dX8_isBarred_38 rfl ?_
      refine mJ_ialdN dX8_isBarred_40 rfl (j := 9) ⟨rfl, by decide, by decide⟩ ?_
      refine mJ_icmp_ge 113 dX8_isBarred_41 rfl (fun c_41 => False.elim (by rw [w4] at c_41; exact nI_ge (show k < nA by omega) (by omega) c_41)) (fun c_41 => ?_)
      refine mJ_iload dX8_isBarred_44 rfl ?_
      refine mJ_top (hb.trans (b2i_t g1)) ?_
      refine mJ_if_ne 100 dX8_isBarred_46 rfl (fun _ => ?_) (fun c => absurd c (by decide))
      refine mJ_iconst (v := 1) dX8_isBarred_100 rfl ?_
      refine mJ_goto 105 dX8_isBarred_101 rfl ?_
      refine mJ_istore dX8_isBarred_105 (Nat.le_of_ble_eq_true rfl) (ls2 := [_, _, _, _, _, _, _, _]) rfl ?_
      refine mJ_iinc dX8_isBarred_107 rfl (Nat.le_of_ble_eq_true rfl) (v := nI (k + 1)) (nI_1 k) (ls2 := [_, _, _, _, _, _, _, _]) rfl ?_
      refine mJ_goto 32 dX8_isBarred_110 rfl ?_
      exact hj
    · by_cases g2 : d 8 = 1
      · by_cases g3 : q_mt x y w t (dA d k 0) (dA d k 1) (dA d k 2) (dA d k 3)
        · obtain ⟨l1, t1, s1, a1, o1, hj⟩ := ih (k + 1) 1 (by omega) (b2i_t (oA_s.mpr (Or.inr ⟨g2, g3⟩))).symm
          refine ⟨l1, t1, s1, a1, o1, ?_⟩
          refine mJ_iload dX8_isBarred_32 rfl ?_
          refine mJ_aload_n dX8_isBarred_34 rfl ?_
          refine mJ_get dX8_isBarred_35 f_X8_7 rfl rfl ?_
          refine mJ_bipush (v := 9) dX8_isBarred_38 rfl ?_
          refine mJ_ialdN dX8_isBarred_40 rfl (j := 9) ⟨rfl, by decide, by decide⟩ ?_
          refine mJ_icmp_ge 113 dX8_isBarred_41 rfl (fun c_41 => False.elim (by rw [w4] at c_41; exact nI_ge (show k < nA by omega) (by omega) c_41)) (fun c_41 => ?_)
          refine mJ_iload dX8_isBarred_44 rfl ?_
          refine mJ_top (hb.trans (b2i_f g1)) ?_
          refine mJ_if_ne 100 dX8_isBarred_46 rfl (fun c => absurd c (by decide)) (fun _ => ?_)
          refine mJ_aload_n dX8_isBarred_49 rfl ?_
          refine mJ_get dX8_isBarred_50 f_X8_7 rfl rfl ?_
          refine mJ_bipush (v := 8) dX8_isBarred_53 rfl ?_
          refine mJ_ialdN dX8_isBarred_55 rfl (j := 8) ⟨rfl, by decide, by decide⟩ ?_
          refine mJ_iconst (v := 1) dX8_isBarred_56 rfl ?_
          refine mJ_icmp_ne 104 dX8_isBarred_57 rfl (fun c_57 => False.elim (by exact c_57 g2)) (fun c_57 => ?_)
          refine mJ_iload_n dX8_isBarred_60 rfl ?_
          refine mJ_iload_n dX8_isBarred_61 rfl ?_
          refine mJ_iload dX8_isBarred_62 rfl ?_
          refine mJ_iload dX8_isBarred_64 rfl ?_
          refine mJ_aload_n dX8_isBarred_66 rfl ?_
          refine mJ_iload dX8_isBarred_67 rfl ?_
          refine mJ_iconst (v := 0) dX8_isBarred_69 rfl ?_
          refine mJ_cV2i dX8_isBarred_70 e_X8_ofAnchor n_X8_40 ⟨Nat.le_of_ble_eq_true rfl, Nat.le_of_ble_eq_true rfl⟩ rfl rfl (Nat.le_of_ble_eq_true rfl) (C_X8_ofAnchor (w := 0) ha (by decide)) ?_
          refine mJ_aload_n dX8_isBarred_73 rfl ?_
          refine mJ_iload dX8_isBarred_74 rfl ?_
          refine mJ_iconst (v := 1) dX8_isBarred_76 rfl ?_
          refine mJ_cV2i dX8_isBarred_77 e_X8_ofAnchor n_X8_40 ⟨Nat.le_of_ble_eq_true rfl, Nat.le_of_ble_eq_true rfl⟩ rfl rfl (Nat.le_of_ble_eq_true rfl) (C_X8_ofAnchor (w := 1) ha (by decide)) ?_
          refine mJ_aload_n dX8_isBarred_80 rfl ?_
          refine mJ_iload dX8_isBarred_81 rfl ?_
          refine mJ_iconst (v := 2) dX8_isBarred_83 rfl ?_
          refine mJ_cV2i dX8_isBarred_84 e_X8_ofAnchor n_X8_40 ⟨Nat.le_of_ble_eq_true rfl, Nat.le_of_ble_eq_true rfl⟩ rfl rfl (Nat.le_of_ble_eq_true rfl) (C_X8_ofAnchor (w := 2) ha (by decide)) ?_
          refine mJ_aload_n dX8_isBarred_87 rfl ?_
          refine mJ_iload dX8_isBarred_88 rfl ?_
          refine mJ_iconst (v := 3) dX8_isBarred_90 rfl ?_
          refine mJ_cV2i dX8_isBarred_91 e_X8_ofAnchor n_X8_40 ⟨Nat.le_of_ble_eq_true rfl, Nat.le_of_ble_eq_true rfl⟩ rfl rfl (Nat.le_of_ble_eq_true rfl) (C_X8_ofAnchor (w := 3) ha (by decide)) ?_
          refine mJ_cS8i dX8_isBarred_94 e_X8_meets n_X8_44 ⟨Nat.le_of_ble_eq_true rfl, Nat.le_of_ble_eq_true rfl⟩ (Nat.le_of_ble_eq_true rfl) (C_X8_meets) ?_
          refine mJ_top (b2i_t g3) ?_
          refine mJ_if_eq 104 dX8_isBarred_97 rfl (fun c => absurd c (by decide)) (fun _ => ?_)
          refine mJ_iconst (v := 1) dX8_isBarred_100 rfl ?_
          refine mJ_goto 105 dX8_isBarred_101 rfl ?_
          refine mJ_istore dX8_isBarred_105 (Nat.le_of_ble_eq_true rfl) (ls2 := [_, _, _, _, _, _, _, _]) rfl ?_
          refine mJ_iinc dX8_isBarred_107 rfl (Nat.le_of_ble_eq_true rfl) (v := nI (k + 1)) (nI_1 k) (ls2 := [_, _, _, _, _, _, _, _]) rfl ?_
          refine mJ_goto 32 dX8_isBarred_110 rfl ?_
          exact hj
        · obtain ⟨l1, t1, s1, a1, o1, hj⟩ := ih (k + 1) 0 (by omega) (b2i_f (fun z => (oA_s.mp z).elim g1 (fun z => g3 z.2))).symm
          refine ⟨l1, t1, s1, a1, o1, ?_⟩
          refine mJ_iload dX8_isBarred_32 rfl ?_
          refine mJ_aload_n dX8_isBarred_34 rfl ?_
          refine mJ_get dX8_isBarred_35 f_X8_7 rfl rfl ?_
          refine mJ_bipush (v := 9) dX8_isBarred_38 rfl ?_
          refine mJ_ialdN dX8_isBarred_40 rfl (j := 9) ⟨rfl, by decide, by decide⟩ ?_
          refine mJ_icmp_ge 113 dX8_isBarred_41 rfl (fun c_41 => False.elim (by rw [w4] at c_41; exact nI_ge (show k < nA by omega) (by omega) c_41)) (fun c_41 => ?_)
          refine mJ_iload dX8_isBarred_44 rfl ?_
          refine mJ_top (hb.trans (b2i_f g1)) ?_
          refine mJ_if_ne 100 dX8_isBarred_46 rfl (fun c => absurd c (by decide)) (fun _ => ?_)
          refine mJ_aload_n dX8_isBarred_49 rfl ?_
          refine mJ_get dX8_isBarred_50 f_X8_7 rfl rfl ?_
          refine mJ_bipush (v := 8) dX8_isBarred_53 rfl ?_
          refine mJ_ialdN dX8_isBarred_55 rfl (j := 8) ⟨rfl, by decide, by decide⟩ ?_
          refine mJ_iconst (v := 1) dX8_isBarred_56 rfl ?_
          refine mJ_icmp_ne 104 dX8_isBarred_57 rfl (fun c_57 => False.elim (by exact c_57 g2)) (fun c_57 => ?_)
          refine mJ_iload_n dX8_isBarred_60 rfl ?_
          refine mJ_iload_n dX8_isBarred_61 rfl ?_
          refine mJ_iload dX8_isBarred_62 rfl ?_
          refine mJ_iload dX8_isBarred_64 rfl ?_
          refine mJ_aload_n dX8_isBarred_66 rfl ?_
          refine mJ_iload dX8_isBarred_67 rfl ?_
          refine mJ_iconst (v := 0) dX8_isBarred_69 rfl ?_
          refine mJ_cV2i dX8_isBarred_70 e_X8_ofAnchor n_X8_40 ⟨Nat.le_of_ble_eq_true rfl, Nat.le_of_ble_eq_true rfl⟩ rfl rfl (Nat.le_of_ble_eq_true rfl) (C_X8_ofAnchor (w := 0) ha (by decide)) ?_
          refine mJ_aload_n dX8_isBarred_73 rfl ?_
          refine mJ_iload dX8_isBarred_74 rfl ?_
          refine mJ_iconst (v := 1) dX8_isBarred_76 rfl ?_
          refine mJ_cV2i dX8_isBarred_77 e_X8_ofAnchor n_X8_40 ⟨Nat.le_of_ble_eq_true rfl, Nat.le_of_ble_eq_true rfl⟩ rfl rfl (Nat.le_of_ble_eq_true rfl) (C_X8_ofAnchor (w := 1) ha (by decide)) ?_
          refine mJ_aload_n dX8_isBarred_80 rfl ?_
          refine mJ_iload dX8_isBarred_81 rfl ?_
          refine mJ_iconst (v := 2) dX8_isBarred_83 rfl ?_
          refine mJ_cV2i dX8_isBarred_84 e_X8_ofAnchor n_X8_40 ⟨Nat.le_of_ble_eq_true rfl, Nat.le_of_ble_eq_true rfl⟩ rfl rfl (Nat.le_of_ble_eq_true rfl) (C_X8_ofAnchor (w := 2) ha (by decide)) ?_
          refine mJ_aload_n dX8_isBarred_87 rfl ?_
          refine mJ_iload dX8_isBarred_88 rfl ?_
          refine mJ_iconst (v := 3) dX8_isBarred_90 rfl ?_
          refine mJ_cV2i dX8_isBarred_91 e_X8_ofAnchor n_X8_40 ⟨Nat.le_of_ble_eq_true rfl, Nat.le_of_ble_eq_true rfl⟩ rfl rfl (Nat.le_of_ble_eq_true rfl) (C_X8_ofAnchor (w := 3) ha (by decide)) ?_
          refine mJ_cS8i dX8_isBarred_94 e_X8_meets n_X8_44 ⟨Nat.le_of_ble_eq_true rfl, Nat.le_of_ble_eq_true rfl⟩ (Nat.le_of_ble_eq_true rfl) (C_X8_meets) ?_
          refine mJ_top (b2i_f g3) ?_
          refine mJ_if_eq 104 dX8_isBarred_97 rfl (fun _ => ?_) (fun c => absurd c (by decide))
          refine mJ_iconst (v := 0) dX8_isBarred_104 rfl ?_
          refine mJ_istore dX8_isBarred_105 (Nat.le_of_ble_eq_true rfl) (ls2 := [_, _, _, _, _, _, _, _]) rfl ?_
          refine mJ_iinc dX8_isBarred_107 rfl (Nat.le_of_ble_eq_true rfl) (v := nI (k + 1)) (nI_1 k) (ls2 := [_, _, _, _, _, _, _, _]) rfl ?_
          refine mJ_goto 32 dX8_isBarred_110 rfl ?_
          exact hj
      · obtain ⟨l1, t1, s1, a1, o1, hj⟩ := ih (k + 1) 0 (by omega) (b2i_f (fun z => (oA_s.mp z).elim g1 (fun z => g2 z.1))).symm
        refine ⟨l1, t1, s1, a1, o1, ?_⟩
        refine mJ_iload dX8_isBarred_32 rfl ?_
        refine mJ_aload_n dX8_isBarred_34 rfl ?_
        refine mJ_get dX8_isBarred_35 f_X8_7 rfl rfl ?_
        refine mJ_bipush (v := 9) dX8_isBarred_38 rfl ?_
        refine mJ_ialdN dX8_isBarred_40 rfl (j := 9) ⟨rfl, by decide, by decide⟩ ?_
        refine mJ_icmp_ge 113 dX8_isBarred_41 rfl (fun c_41 => False.elim (by rw [w4] at c_41; exact nI_ge (show k < nA by omega) (by omega) c_41)) (fun c_41 => ?_)
        refine mJ_iload dX8_isBarred_44 rfl ?_
        refine mJ_top (hb.trans (b2i_f g1)) ?_
        refine mJ_if_ne 100 dX8_isBarred_46 rfl (fun c => absurd c (by decide)) (fun _ => ?_)
        refine mJ_aload_n dX8_isBarred_49 rfl ?_
        refine mJ_get dX8_isBarred_50 f_X8_7 rfl rfl ?_
        refine mJ_bipush (v := 8) dX8_isBarred_53 rfl ?_
        refine mJ_ialdN dX8_isBarred_55 rfl (j := 8) ⟨rfl, by decide, by decide⟩ ?_
        refine mJ_iconst (v := 1) dX8_isBarred_56 rfl ?_
        refine mJ_icmp_ne 104 dX8_isBarred_57 rfl (fun c_57 => ?_) (fun c_57 => False.elim (by exact g2 c_57))
        refine mJ_iconst (v := 0) dX8_isBarred_104 rfl ?_
        refine mJ_istore dX8_isBarred_105 (Nat.le_of_ble_eq_true rfl) (ls2 := [_, _, _, _, _, _, _, _]) rfl ?_
        refine mJ_iinc dX8_isBarred_107 rfl (Nat.le_of_ble_eq_true rfl) (v := nI (k + 1)) (nI_1 k) (ls2 := [_, _, _, _, _, _, _, _]) rfl ?_
        refine mJ_goto 32 dX8_isBarred_110 rfl ?_
        exact hj
set_option maxHeartbeats 4000000 in
set_option maxRecDepth 100000 in
theorem C_X8_isBarred {d was text ord why son tri : aF} {sta typ at_ sig fst snd rea lef top shf arr goo shn trs : Int32} {nA nH nO : Nat} (hw : wD d nA nH nO) (hon : ∀ o, o < nH → son o = -1 ∨ sd (son o)) {h : Nat} (hh : h < 12) : ∃ lef' top' shf' arr' goo' : Int32, mCt k_X8_isBarred [.ref 0, .int (nI h)] (mH d was sta text typ at_ sig fst snd rea lef top shf arr goo ord why son shn tri trs) (some (.int (b2i (oB d son nA nH lef top (dH d h 1) (dH d h 2))))) (mH d was sta text typ at_ sig fst snd rea (lef') (top') (shf') (arr') (goo') ord why son shn tri trs) := by
  obtain ⟨l1, t1, s1, a1, o1, hj⟩ := L_X8_isBarred_1 (x := lef) (y := top) (w := dH d h 1) (t := dH d h 2) (was := was) (sta := sta) (text := text) (typ := typ) (at_ := at_) (sig := sig) (fst := fst) (snd := snd) (rea := rea) (lef := lef) (top := top) (shf := shf) (arr := arr) (goo := goo) (ord := ord) (why := why) (shn := shn) (tri := tri) (trs := trs) (h := h) hw hon nA 0 0 (by omega) (b2i_f oA_0).symm
  refine ⟨l1, t1, s1, a1, o1, ?_⟩
  refine mCt_intro (plainFor_of_name rfl) (Nat.le_of_ble_eq_true rfl) (m_all rfl) (ls := [_, _, _, _, _, _, _, _]) rfl ?_
  refine mJ_aload_n dX8_isBarred_0 rfl ?_
  refine mJ_get dX8_isBarred_1 f_X8_73 rfl rfl ?_
  refine mJ_istore_n dX8_isBarred_4 (Nat.le_of_ble_eq_true rfl) (ls2 := [_, _, _, _, _, _, _, _]) rfl ?_
  refine mJ_aload_n dX8_isBarred_5 rfl ?_
  refine mJ_get dX8_isBarred_6 f_X8_76 rfl rfl ?_
  refine mJ_istore_n dX8_isBarred_9 (Nat.le_of_ble_eq_true rfl) (ls2 := [_, _, _, _, _, _, _, _]) rfl ?_
  refine mJ_aload_n dX8_isBarred_10 rfl ?_
  refine mJ_iload_n dX8_isBarred_11 rfl ?_
  refine mJ_iconst (v := 1) dX8_isBarred_12 rfl ?_
  refine mJ_cV2i dX8_isBarred_13 e_X8_ofHint n_X8_52 ⟨Nat.le_of_ble_eq_true rfl, Nat.le_of_ble_eq_true rfl⟩ rfl rfl (Nat.le_of_ble_eq_true rfl) (C_X8_ofHint (w := 1) hh (by decide)) ?_
  refine mJ_istore dX8_isBarred_16 (Nat.le_of_ble_eq_true rfl) (ls2 := [_, _, _, _, _, _, _, _]) rfl ?_
  refine mJ_aload_n dX8_isBarred_18 rfl ?_
  refine mJ_iload_n dX8_isBarred_19 rfl ?_
  refine mJ_iconst (v := 2) dX8_isBarred_20 rfl ?_
  refine mJ_cV2i dX8_isBarred_21 e_X8_ofHint n_X8_52 ⟨Nat.le_of_ble_eq_true rfl, Nat.le_of_ble_eq_true rfl⟩ rfl rfl (Nat.le_of_ble_eq_true rfl) (C_X8_ofHint (w := 2) hh (by decide)) ?_
  refine mJ_istore dX8_isBarred_24 (Nat.le_of_ble_eq_true rfl) (ls2 := [_, _, _, _, _, _, _, _]) rfl ?_
  refine mJ_iconst (v := 0) dX8_isBarred_26 rfl ?_
  refine mJ_istore dX8_isBarred_27 (Nat.le_of_ble_eq_true rfl) (ls2 := [_, _, _, _, _, _, _, _]) rfl ?_
  refine mJ_iconst (v := 0) dX8_isBarred_29 rfl ?_
  refine mJ_istore dX8_isBarred_30 (Nat.le_of_ble_eq_true rfl) (ls2 := [_, _, _, _, _, _, _, _]) rfl ?_
  exact hj
