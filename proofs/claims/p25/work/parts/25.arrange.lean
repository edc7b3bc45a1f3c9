/-! THE CLASS: all hints shown or waiting, in the reference's words -/
/-- the row C of the class stands for the row d of the reference -/
def bC (C d : aF) (nA nH nO : Nat) : Prop :=
  (wD d nA nH nO) ∧
  (gG C 4 = nI nA) ∧
  (gG C 5 = nI nH) ∧
  (∀ h s, h < nH → sd s → f_x C (nI h) s (gG C 2) (gG C 3) = p_x d h s) ∧
  (∀ h s, h < nH → sd s → f_y C (nI h) s (gG C 2) (gG C 3) = p_y d h s) ∧
  (∀ h s, h < nH → sd s → (f_in C (nI h) s (gG C 2) (gG C 3) ↔ p_in d h s)) ∧
  (∀ h, h < nH → gH C (nI h) 1 = dH d h 1) ∧
  (∀ h, h < nH → gH C (nI h) 2 = dH d h 2) ∧
  (∀ a x y w t, a < nA → (q_am C (nI a) x y w t ↔ q_mt x y w t (dA d a 0) (dA d a 1) (dA d a 2) (dA d a 3))) ∧
  (gS C 4 = 0 ↔ ¬ d 8 = 1) ∧
  (gS C 2 = d 6) ∧
  (∀ h, h < nH → (q_as C (gH C (nI h) 0) ↔ q_sn d (p_an d h))) ∧
  (∀ h, h < nH → ∀ a : aF, tL (trL (a, 0) (gH C (nI h) 9) (gH C (nI h) 3) (gH C (nI h) 5) (gS C 3)).1 (tryL d h)) ∧
  (∀ OR, oF (orW C OR nH nH) (ordL d nO)) ∧
  (cN (fun o => q_open C (nI o)) nH = nO) ∧
  (wI d nO)
theorem bC.wd {C d : aF} {nA nH nO : Nat} (B : bC C d nA nH nO) : wD d nA nH nO := B.1
theorem bC.h4 {C d : aF} {nA nH nO : Nat} (B : bC C d nA nH nO) : gG C 4 = nI nA := B.2.1
theorem bC.h5 {C d : aF} {nA nH nO : Nat} (B : bC C d nA nH nO) : gG C 5 = nI nH := B.2.2.1
theorem bC.hx {C d : aF} {nA nH nO : Nat} (B : bC C d nA nH nO) : ∀ h s, h < nH → sd s → f_x C (nI h) s (gG C 2) (gG C 3) = p_x d h s := B.2.2.2.1
theorem bC.hy {C d : aF} {nA nH nO : Nat} (B : bC C d nA nH nO) : ∀ h s, h < nH → sd s → f_y C (nI h) s (gG C 2) (gG C 3) = p_y d h s := B.2.2.2.2.1
theorem bC.hin {C d : aF} {nA nH nO : Nat} (B : bC C d nA nH nO) : ∀ h s, h < nH → sd s → (f_in C (nI h) s (gG C 2) (gG C 3) ↔ p_in d h s) := B.2.2.2.2.2.1
theorem bC.hW {C d : aF} {nA nH nO : Nat} (B : bC C d nA nH nO) : ∀ h, h < nH → gH C (nI h) 1 = dH d h 1 := B.2.2.2.2.2.2.1
theorem bC.hT {C d : aF} {nA nH nO : Nat} (B : bC C d nA nH nO) : ∀ h, h < nH → gH C (nI h) 2 = dH d h 2 := B.2.2.2.2.2.2.2.1
theorem bC.hA {C d : aF} {nA nH nO : Nat} (B : bC C d nA nH nO) : ∀ a x y w t, a < nA → (q_am C (nI a) x y w t ↔ q_mt x y w t (dA d a 0) (dA d a 1) (dA d a 2) (dA d a 3)) := B.2.2.2.2.2.2.2.2.1
theorem bC.hoff {C d : aF} {nA nH nO : Nat} (B : bC C d nA nH nO) : gS C 4 = 0 ↔ ¬ d 8 = 1 := B.2.2.2.2.2.2.2.2.2.1
theorem bC.hms {C d : aF} {nA nH nO : Nat} (B : bC C d nA nH nO) : gS C 2 = d 6 := B.2.2.2.2.2.2.2.2.2.2.1
theorem bC.hsn {C d : aF} {nA nH nO : Nat} (B : bC C d nA nH nO) : ∀ h, h < nH → (q_as C (gH C (nI h) 0) ↔ q_sn d (p_an d h)) := B.2.2.2.2.2.2.2.2.2.2.2.1
theorem bC.hL {C d : aF} {nA nH nO : Nat} (B : bC C d nA nH nO) : ∀ h, h < nH → ∀ a : aF, tL (trL (a, 0) (gH C (nI h) 9) (gH C (nI h) 3) (gH C (nI h) 5) (gS C 3)).1 (tryL d h) := B.2.2.2.2.2.2.2.2.2.2.2.2.1
theorem bC.hor {C d : aF} {nA nH nO : Nat} (B : bC C d nA nH nO) : ∀ OR, oF (orW C OR nH nH) (ordL d nO) := B.2.2.2.2.2.2.2.2.2.2.2.2.2.1
theorem bC.hno {C d : aF} {nA nH nO : Nat} (B : bC C d nA nH nO) : cN (fun o => q_open C (nI o)) nH = nO := B.2.2.2.2.2.2.2.2.2.2.2.2.2.2.1
theorem bC.hwi {C d : aF} {nA nH nO : Nat} (B : bC C d nA nH nO) : wI d nO := B.2.2.2.2.2.2.2.2.2.2.2.2.2.2.2
/-- what the class keeps of the shown hints stands for the reference's -/
def sR (d : aF) (nH : Nat) (RS SD XS YS W on : aF) : Prop := ∀ o, o < nH → RS o = W o ∧ (RS o = 0 ↔ ¬ on o = -1) ∧ (¬ on o = -1 → SD o = on o ∧ XS o = p_x d o (on o) ∧ YS o = p_y d o (on o))
theorem mP_iff {C d : aF} {nA nH nO : Nat} (B : bC C d nA nH nO) {RS SD XS YS W on : aF} (hs : sR d nH RS SD XS YS W on) {x y w t : Int32} {o : Nat} (ho : o < nH) : mP C RS XS YS x y w t o ↔ (¬ on o = -1 ∧ q_mt x y w t (p_x d o (on o)) (p_y d o (on o)) (dH d o 1) (dH d o 2)) := by
  obtain ⟨h1, h2, h3⟩ := hs o ho
  unfold mP q_sm q_mt
  constructor
  · rintro ⟨a, ⟨b1, b2⟩, c1, c2⟩
    have q := h2.mp a
    obtain ⟨_, e2, e3⟩ := h3 q
    rw [e2, B.hW o ho] at b2
    rw [e2] at b1
    rw [e3, B.hT o ho] at c2
    rw [e3] at c1
    exact ⟨q, ⟨b2, b1⟩, c2, c1⟩
  · rintro ⟨q, ⟨b2, b1⟩, c2, c1⟩
    obtain ⟨_, e2, e3⟩ := h3 q
    rw [e2, e3, B.hW o ho, B.hT o ho]
    exact ⟨h2.mpr q, ⟨b1, b2⟩, c1, c2⟩
theorem free_iff {C d : aF} {nA nH nO : Nat} (B : bC C d nA nH nO) {RS SD XS YS W on : aF} (hs : sR d nH RS SD XS YS W on) {x y w t : Int32} : (¬ (∃ o, o < nH ∧ mP C RS XS YS x y w t o) ∧ (gS C 4 = 0 ∨ ¬ (∃ a, a < nA ∧ q_am C (nI a) x y w t))) ↔ ¬ oB d on nA nH x y w t := by
  have e1 : (∃ o, o < nH ∧ mP C RS XS YS x y w t o) ↔ oH d on x y w t nH := by
    unfold oH
    constructor
    · rintro ⟨o, ho, q⟩
      obtain ⟨a, b⟩ := (mP_iff B hs ho).mp q
      exact ⟨o, ho, a, b⟩
    · rintro ⟨o, ho, a, b⟩
      exact ⟨o, ho, (mP_iff B hs ho).mpr ⟨a, b⟩⟩
  have e2 : (∃ a, a < nA ∧ q_am C (nI a) x y w t) ↔ ∃ a, a < nA ∧ q_mt x y w t (dA d a 0) (dA d a 1) (dA d a 2) (dA d a 3) := by
    constructor
    · rintro ⟨a, ha, q⟩; exact ⟨a, ha, (B.hA a x y w t ha).mp q⟩
    · rintro ⟨a, ha, q⟩; exact ⟨a, ha, (B.hA a x y w t ha).mpr q⟩
  rw [e1, e2, B.hoff]
  unfold oB oA
  constructor
  · rintro ⟨a, b⟩ (⟨c1, c2⟩ | c)
    · exact b.elim (fun z => z c1) (fun z => z c2)
    · exact a c
  · intro z
    refine ⟨fun c => z (Or.inr c), ?_⟩
    by_cases q : d 8 = 1
    · exact Or.inr (fun c => z (Or.inl ⟨q, c⟩))
    · exact Or.inl q
def uN (f : aF) (h : Nat) (s v : Int32) : aF := if s = -1 then f else rp 12 f (nI h) v
theorem uN_y {f : aF} {h : Nat} {v : Int32} : uN f h (-1) v = f := if_pos rfl
theorem uN_n {f : aF} {h : Nat} {s v : Int32} (hs : ¬ s = -1) : uN f h s v = rp 12 f (nI h) v := if_neg hs
theorem p_try_0 (d on : aF) (nA nH h : Nat) : ∀ (L : List Int32) (r : Int32), (∀ s ∈ L, sd s) → ¬ r = 0 → ((p_try d on nA nH h L r).1 = 0 ↔ ¬ (p_try d on nA nH h L r).2 = -1)
  | [], r, _, hr => ⟨fun z => absurd z hr, fun z => absurd rfl z⟩
  | s :: L, r, hL, hr => by
    unfold p_try
    by_cases h1 : p_in d h s
    · rw [iif_t h1]
      by_cases h2 : oB d on nA nH (p_x d h s) (p_y d h s) (dH d h 1) (dH d h 2)
      · rw [iif_t h2]; exact p_try_0 d on nA nH h L 4 (fun x hx => hL x (List.mem_cons_of_mem _ hx)) (by decide)
      · rw [iif_f h2]; exact ⟨fun _ => sd_ne (hL s List.mem_cons_self), fun _ => rfl⟩
    · rw [iif_f h1]; exact p_try_0 d on nA nH h L r (fun x hx => hL x (List.mem_cons_of_mem _ hx)) hr
noncomputable def tR (d on : aF) (nA nH : Nat) (shn : Int32) (h : Nat) : Int32 × Int32 := iif (q_sn d (p_an d h)) (if shn < d 6 then p_try d on nA nH h (tryL d h) 3 else (5, -1)) (2, -1)
theorem p_step_tR {d : aF} {nA nH : Nat} {W on : aF} {shn : Int32} {h : Nat} (hs : on h = -1) : p_step d nA nH (W, on, shn) h = (upd W h (tR d on nA nH shn h).1, upd on h (tR d on nA nH shn h).2, if (tR d on nA nH shn h).2 = -1 then shn else shn + 1) := by
  unfold p_step tR
  by_cases q : q_sn d (p_an d h)
  · rw [iif_t q, iif_t q]
    by_cases g : shn < d 6
    · rw [if_pos g, if_pos (show (W, on, shn).2.2 < d 6 from g)]
    · rw [if_neg g, if_neg (show ¬ (W, on, shn).2.2 < d 6 from g)]
      show (upd W h 5, on, shn) = (upd W h 5, upd on h (-1), if (-1 : Int32) = -1 then shn else shn + 1)
      rw [upd_same hs, if_pos rfl]
  · rw [iif_f q, iif_f q]
    show (upd W h 2, on, shn) = (upd W h 2, upd on h (-1), if (-1 : Int32) = -1 then shn else shn + 1)
    rw [upd_same hs, if_pos rfl]
theorem tR_0 {d on : aF} {nA nH nO : Nat} (hw : wD d nA nH nO) {shn : Int32} {h : Nat} (hh : h < nH) : ((tR d on nA nH shn h).1 = 0 ↔ ¬ (tR d on nA nH shn h).2 = -1) ∧ ((tR d on nA nH shn h).2 = -1 ∨ sd (tR d on nA nH shn h).2) := by
  obtain ⟨w1, w2, w3, w4, w5, w6, w7, w8, w9, w10⟩ := id hw
  have hL := tryL_sd (w8 h hh) (w9 h hh)
  unfold tR
  by_cases q : q_sn d (p_an d h)
  · rw [iif_t q]
    by_cases g : shn < d 6
    · rw [if_pos g]; exact ⟨p_try_0 d on nA nH h _ 3 hL (by decide), p_try_sd d on nA nH h _ 3 hL⟩
    · rw [if_neg g]; exact ⟨⟨fun z => absurd z (by decide), fun z => absurd rfl z⟩, Or.inl rfl⟩
  · rw [iif_f q]; exact ⟨⟨fun z => absurd z (by decide), fun z => absurd rfl z⟩, Or.inl rfl⟩
set_option maxHeartbeats 4000000 in
set_option maxRecDepth 100000 in
theorem L_X4_tryToShow {C d : aF} {nA nH nO : Nat} (B : bC C d nA nH nO) {Hs : tH} {T1 : tT} {Od : tO} {T2 : tT} {P2 : tP} {RS SD XS YS OR : aF} {shn : Int32} {W on : aF} (hs : sR d nH RS SD XS YS W on) {h : Nat} (hh : h < nH) {L : List Int32} (hT : tL T1 L) (hL : ∀ s ∈ L, sd s) : ∀ (m k : Nat) (r : Int32) (P1 : tP) (r' s' : Int32), k + m = L.length → p_try d on nA nH h (L.drop k) r = (r', s') → ∃ P1' : tP, mJ k_X4_tryToShow 43 [.ref 7, .ref 1, .int (nI h), .int r, .int (nI k)] [] (cH C Hs (RS, SD, XS, YS, OR, shn) T1 P1 Od T2 P2) (some (.int r')) (cH C Hs (RS, uN SD h s' s', uN XS h s' (p_x d h s'), uN YS h s' (p_y d h s'), OR, shn) T1 (P1') Od T2 P2) := by
  obtain ⟨w1, w2, w3, w4, w5, w6, w7, w8, w9, w10⟩ := id B.wd
  have ht : T1.2 = nI L.length := hT.1
  have hT4 := hT.2.1
  intro m
  induction m with
  | zero =>
    intro k r P1 r' s' hk he
    have hd : L.drop k = [] := List.drop_eq_nil_of_le (by omega)
    rw [hd] at he
    obtain ⟨rfl, rfl⟩ := Prod.mk.inj (show (r, (-1 : Int32)) = (r', s') from he)
    refine ⟨P1, ?_⟩
    rw [uN_y, uN_y, uN_y]
    refine mJ_iload dX4_tryToShow_43 rfl ?_
    refine mJ_aload_n dX4_tryToShow_45 rfl ?_
    refine mJ_get dX4_tryToShow_46 f_X4_35 rfl rfl ?_
    refine mJ_get_18_1 dX4_tryToShow_49 f_X4_90 ?_
    refine mJ_icmp_ge 165 dX4_tryToShow_52 rfl (fun c_52 => ?_) (fun c_52 => False.elim (by exact c_52 (by rw [ht, show k = L.length by omega]; exact Int32.le_refl _)))
    refine mJ_iload_n dX4_tryToShow_165 rfl ?_
    exact mJ_iret dX4_tryToShow_166 rfl (rfl) (rfl)
  | succ m ih =>
    intro k r P1 r' s' hk0 he
    have hk : k < L.length := by omega
    obtain ⟨s, hs1⟩ : ∃ s, L[k]? = some s := ⟨_, List.getElem?_eq_getElem hk⟩
    have hss : sd s := hL s (List.mem_of_getElem? hs1)
    have htk : T1.1 k = s := hT.2.2 k s hs1
    have hd : L.drop k = s :: L.drop (k + 1) := by
      rw [List.drop_eq_getElem_cons hk]
      congr 1
      exact (List.getElem?_eq_some_iff.mp hs1).2
    rw [hd] at he
    by_cases g1 : p_in d h s
    · have hfree := free_iff B hs (x := p_x d h s) (y := p_y d h s) (w := dH d h 1) (t := dH d h 2)
      rw [← B.hx h s hh hss, ← B.hy h s hh hss, ← B.hW h hh, ← B.hT h hh] at hfree
      have hob : oB d on nA nH (f_x C (nI h) s (gG C 2) (gG C 3)) (f_y C (nI h) s (gG C 2) (gG C 3)) (gH C (nI h) 1) (gH C (nI h) 2) ↔ oB d on nA nH (p_x d h s) (p_y d h s) (dH d h 1) (dH d h 2) := by rw [B.hx h s hh hss, B.hy h s hh hss, B.hW h hh, B.hT h hh]
      by_cases g2 : oB d on nA nH (p_x d h s) (p_y d h s) (dH d h 1) (dH d h 2)
      · obtain ⟨P1', hj⟩ := ih (k + 1) 4 (f_P C (nI h) s (gG C 2) (gG C 3)) r' s' (by omega) (((iif_t g1).trans (iif_t g2)).symm.trans he)
        refine ⟨P1', ?_⟩
        refine mJ_iload dX4_tryToShow_43 rfl ?_
        refine mJ_aload_n dX4_tryToShow_45 rfl ?_
        refine mJ_get dX4_tryToShow_46 f_X4_35 rfl rfl ?_
        refine mJ_get_18_1 dX4_tryToShow_49 f_X4_90 ?_
        refine mJ_icmp_ge 165 dX4_tryToShow_52 rfl (fun c_52 => False.elim (by rw [ht] at c_52; exact nI_ge hk (by omega) c_52)) (fun c_52 => ?_)
        refine mJ_aload_n dX4_tryToShow_55 rfl ?_
        refine mJ_get dX4_tryToShow_56 f_X4_42 rfl rfl ?_
        refine mJ_aload_n dX4_tryToShow_59 rfl ?_
        refine mJ_iload_n dX4_tryToShow_60 rfl ?_
        refine mJ_aload_n dX4_tryToShow_61 rfl ?_
        refine mJ_get dX4_tryToShow_62 f_X4_35 rfl rfl ?_
        refine mJ_get dX4_tryToShow_65 f_X4_93 rfl rfl ?_
        refine mJ_iload dX4_tryToShow_68 rfl ?_
        refine mJ_cV1i dX4_tryToShow_70 e_X3_get n_X4_54 ⟨Nat.le_of_ble_eq_true rfl, Nat.le_of_ble_eq_true rfl⟩ rfl rfl (Nat.le_of_ble_eq_true rfl) (C_X3_get rfl rfl (Nat.le_of_ble_eq_true rfl)) ?_
        refine mJ_top ((rg_in T1.1 (show k < 4 by omega) (by decide)).trans htk) ?_
        refine mJ_aload_n dX4_tryToShow_73 rfl ?_
        refine mJ_iconst (v := 2) dX4_tryToShow_74 rfl ?_
        refine mJ_cV1i dX4_tryToShow_75 e_X5_get n_X4_66 ⟨Nat.le_of_ble_eq_true rfl, Nat.le_of_ble_eq_true rfl⟩ rfl rfl (Nat.le_of_ble_eq_true rfl) (C_X5_get) ?_
        refine mJ_aload_n dX4_tryToShow_78 rfl ?_
        refine mJ_iconst (v := 3) dX4_tryToShow_79 rfl ?_
        refine mJ_cV1i dX4_tryToShow_80 e_X5_get n_X4_66 ⟨Nat.le_of_ble_eq_true rfl, Nat.le_of_ble_eq_true rfl⟩ rfl rfl (Nat.le_of_ble_eq_true rfl) (C_X5_get) ?_
        refine mJ_cV5v dX4_tryToShow_83 e_X2_find n_X4_94 ⟨Nat.le_of_ble_eq_true rfl, Nat.le_of_ble_eq_true rfl⟩ rfl rfl (Nat.le_of_ble_eq_true rfl) (C_X2_find_21) ?_
        refine mJ_aload_n dX4_tryToShow_86 rfl ?_
        refine mJ_get dX4_tryToShow_87 f_X4_42 rfl rfl ?_
        refine mJ_get_21_5 dX4_tryToShow_90 f_X4_98 ?_
        refine mJ_top (b2i_t ((B.hin h s hh hss).mpr g1)) ?_
        refine mJ_if_eq 159 dX4_tryToShow_93 rfl (fun c => absurd c (by decide)) (fun _ => ?_)
        refine mJ_aload_n dX4_tryToShow_96 rfl ?_
        refine mJ_aload_n dX4_tryToShow_97 rfl ?_
        refine mJ_iload_n dX4_tryToShow_98 rfl ?_
        refine mJ_cV2i dX4_tryToShow_99 e_X4_isFree n_X4_102 ⟨Nat.le_of_ble_eq_true rfl, Nat.le_of_ble_eq_true rfl⟩ rfl rfl (Nat.le_of_ble_eq_true rfl) (C_X4_isFree B.h5 w2 B.h4 w1) ?_
        refine mJ_top (b2i_f (fun z => hfree.mp z (hob.mpr g2))) ?_
        refine mJ_if_eq 157 dX4_tryToShow_102 rfl (fun _ => ?_) (fun c => absurd c (by decide))
        refine mJ_iconst (v := 4) dX4_tryToShow_157 rfl ?_
        refine mJ_istore_n dX4_tryToShow_158 (Nat.le_of_ble_eq_true rfl) (ls2 := [_, _, _, _, _]) rfl ?_
        refine mJ_iinc dX4_tryToShow_159 rfl (Nat.le_of_ble_eq_true rfl) (v := nI (k + 1)) (nI_1 k) (ls2 := [_, _, _, _, _]) rfl ?_
        refine mJ_goto 43 dX4_tryToShow_162 rfl ?_
        exact hj
      · obtain ⟨rfl, rfl⟩ := Prod.mk.inj (((iif_t g1).trans (iif_f g2)).symm.trans he)
        refine ⟨(f_P C (nI h) s (gG C 2) (gG C 3)), ?_⟩
        rw [uN_n (sd_ne hss), uN_n (sd_ne hss), uN_n (sd_ne hss)]
        refine mJ_iload dX4_tryToShow_43 rfl ?_
        refine mJ_aload_n dX4_tryToShow_45 rfl ?_
        refine mJ_get dX4_tryToShow_46 f_X4_35 rfl rfl ?_
        refine mJ_get_18_1 dX4_tryToShow_49 f_X4_90 ?_
        refine mJ_icmp_ge 165 dX4_tryToShow_52 rfl (fun c_52 => False.elim (by rw [ht] at c_52; exact nI_ge hk (by omega) c_52)) (fun c_52 => ?_)
        refine mJ_aload_n dX4_tryToShow_55 rfl ?_
        refine mJ_get dX4_tryToShow_56 f_X4_42 rfl rfl ?_
        refine mJ_aload_n dX4_tryToShow_59 rfl ?_
        refine mJ_iload_n dX4_tryToShow_60 rfl ?_
        refine mJ_aload_n dX4_tryToShow_61 rfl ?_
        refine mJ_get dX4_tryToShow_62 f_X4_35 rfl rfl ?_
        refine mJ_get dX4_tryToShow_65 f_X4_93 rfl rfl ?_
        refine mJ_iload dX4_tryToShow_68 rfl ?_
        refine mJ_cV1i dX4_tryToShow_70 e_X3_get n_X4_54 ⟨Nat.le_of_ble_eq_true rfl, Nat.le_of_ble_eq_true rfl⟩ rfl rfl (Nat.le_of_ble_eq_true rfl) (C_X3_get rfl rfl (Nat.le_of_ble_eq_true rfl)) ?_
        refine mJ_top ((rg_in T1.1 (show k < 4 by omega) (by decide)).trans htk) ?_
        refine mJ_aload_n dX4_tryToShow_73 rfl ?_
        refine mJ_iconst (v := 2) dX4_tryToShow_74 rfl ?_
        refine mJ_cV1i dX4_tryToShow_75 e_X5_get n_X4_66 ⟨Nat.le_of_ble_eq_true rfl, Nat.le_of_ble_eq_true rfl⟩ rfl rfl (Nat.le_of_ble_eq_true rfl) (C_X5_get) ?_
        refine mJ_aload_n dX4_tryToShow_78 rfl ?_
        refine mJ_iconst (v := 3) dX4_tryToShow_79 rfl ?_
        refine mJ_cV1i dX4_tryToShow_80 e_X5_get n_X4_66 ⟨Nat.le_of_ble_eq_true rfl, Nat.le_of_ble_eq_true rfl⟩ rfl rfl (Nat.le_of_ble_eq_true rfl) (C_X5_get) ?_
        refine mJ_cV5v dX4_tryToShow_83 e_X2_find n_X4_94 ⟨Nat.le_of_ble_eq_true rfl, Nat.le_of_ble_eq_true rfl⟩ rfl rfl (Nat.le_of_ble_eq_true rfl) (C_X2_find_21) ?_
        refine mJ_aload_n dX4_tryToShow_86 rfl ?_
        refine mJ_get dX4_tryToShow_87 f_X4_42 rfl rfl ?_
        refine mJ_get_21_5 dX4_tryToShow_90 f_X4_98 ?_
        refine mJ_top (b2i_t ((B.hin h s hh hss).mpr g1)) ?_
        refine mJ_if_eq 159 dX4_tryToShow_93 rfl (fun c => absurd c (by decide)) (fun _ => ?_)
        refine mJ_aload_n dX4_tryToShow_96 rfl ?_
        refine mJ_aload_n dX4_tryToShow_97 rfl ?_
        refine mJ_iload_n dX4_tryToShow_98 rfl ?_
        refine mJ_cV2i dX4_tryToShow_99 e_X4_isFree n_X4_102 ⟨Nat.le_of_ble_eq_true rfl, Nat.le_of_ble_eq_true rfl⟩ rfl rfl (Nat.le_of_ble_eq_true rfl) (C_X4_isFree B.h5 w2 B.h4 w1) ?_
        refine mJ_top (b2i_t (hfree.mpr (fun z => g2 (hob.mp z)))) ?_
        refine mJ_if_eq 157 dX4_tryToShow_102 rfl (fun c => absurd c (by decide)) (fun _ => ?_)
        refine mJ_aload_n dX4_tryToShow_105 rfl ?_
        refine mJ_get dX4_tryToShow_106 f_X4_20 rfl rfl ?_
        refine mJ_iload_n dX4_tryToShow_109 rfl ?_
        refine mJ_aload_n dX4_tryToShow_110 rfl ?_
        refine mJ_get dX4_tryToShow_111 f_X4_35 rfl rfl ?_
        refine mJ_get dX4_tryToShow_114 f_X4_93 rfl rfl ?_
        refine mJ_iload dX4_tryToShow_117 rfl ?_
        refine mJ_cV1i dX4_tryToShow_119 e_X3_get n_X4_54 ⟨Nat.le_of_ble_eq_true rfl, Nat.le_of_ble_eq_true rfl⟩ rfl rfl (Nat.le_of_ble_eq_true rfl) (C_X3_get rfl rfl (Nat.le_of_ble_eq_true rfl)) ?_
        refine mJ_top ((rg_in T1.1 (show k < 4 by omega) (by decide)).trans htk) ?_
        refine mJ_cV2v dX4_tryToShow_122 e_X3_put n_X4_62 ⟨Nat.le_of_ble_eq_true rfl, Nat.le_of_ble_eq_true rfl⟩ rfl rfl (Nat.le_of_ble_eq_true rfl) (C_put_11) ?_
        refine mJ_aload_n dX4_tryToShow_125 rfl ?_
        refine mJ_get dX4_tryToShow_126 f_X4_23 rfl rfl ?_
        refine mJ_iload_n dX4_tryToShow_129 rfl ?_
        refine mJ_aload_n dX4_tryToShow_130 rfl ?_
        refine mJ_get dX4_tryToShow_131 f_X4_42 rfl rfl ?_
        refine mJ_get_21_0 dX4_tryToShow_134 f_X4_106 ?_
        refine mJ_top (B.hx h s hh hss) ?_
        refine mJ_cV2v dX4_tryToShow_137 e_X3_put n_X4_62 ⟨Nat.le_of_ble_eq_true rfl, Nat.le_of_ble_eq_true rfl⟩ rfl rfl (Nat.le_of_ble_eq_true rfl) (C_put_13) ?_
        refine mJ_aload_n dX4_tryToShow_140 rfl ?_
        refine mJ_get dX4_tryToShow_141 f_X4_26 rfl rfl ?_
        refine mJ_iload_n dX4_tryToShow_144 rfl ?_
        refine mJ_aload_n dX4_tryToShow_145 rfl ?_
        refine mJ_get dX4_tryToShow_146 f_X4_42 rfl rfl ?_
        refine mJ_get_21_1 dX4_tryToShow_149 f_X4_109 ?_
        refine mJ_top (B.hy h s hh hss) ?_
        refine mJ_cV2v dX4_tryToShow_152 e_X3_put n_X4_62 ⟨Nat.le_of_ble_eq_true rfl, Nat.le_of_ble_eq_true rfl⟩ rfl rfl (Nat.le_of_ble_eq_true rfl) (C_put_15) ?_
        refine mJ_iconst (v := 0) dX4_tryToShow_155 rfl ?_
        exact mJ_iret dX4_tryToShow_156 rfl (rfl) (rfl)
    · obtain ⟨P1', hj⟩ := ih (k + 1) r (f_P C (nI h) s (gG C 2) (gG C 3)) r' s' (by omega) ((iif_f g1).symm.trans he)
      refine ⟨P1', ?_⟩
      refine mJ_iload dX4_tryToShow_43 rfl ?_
      refine mJ_aload_n dX4_tryToShow_45 rfl ?_
      refine mJ_get dX4_tryToShow_46 f_X4_35 rfl rfl ?_
      refine mJ_get_18_1 dX4_tryToShow_49 f_X4_90 ?_
      refine mJ_icmp_ge 165 dX4_tryToShow_52 rfl (fun c_52 => False.elim (by rw [ht] at c_52; exact nI_ge hk (by omega) c_52)) (fun c_52 => ?_)
      refine mJ_aload_n dX4_tryToShow_55 rfl ?_
      refine mJ_get dX4_tryToShow_56 f_X4_42 rfl rfl ?_
      refine mJ_aload_n dX4_tryToShow_59 rfl ?_
      refine mJ_iload_n dX4_tryToShow_60 rfl ?_
      refine mJ_aload_n dX4_tryToShow_61 rfl ?_
      refine mJ_get dX4_tryToShow_62 f_X4_35 rfl rfl ?_
      refine mJ_get dX4_tryToShow_65 f_X4_93 rfl rfl ?_
      refine mJ_iload dX4_tryToShow_68 rfl ?_
      refine mJ_cV1i dX4_tryToShow_70 e_X3_get n_X4_54 ⟨Nat.le_of_ble_eq_true rfl, Nat.le_of_ble_eq_true rfl⟩ rfl rfl (Nat.le_of_ble_eq_true rfl) (C_X3_get rfl rfl (Nat.le_of_ble_eq_true rfl)) ?_
      refine mJ_top ((rg_in T1.1 (show k < 4 by omega) (by decide)).trans htk) ?_
      refine mJ_aload_n dX4_tryToShow_73 rfl ?_
      refine mJ_iconst (v := 2) dX4_tryToShow_74 rfl ?_
      refine mJ_cV1i dX4_tryToShow_75 e_X5_get n_X4_66 ⟨Nat.le_of_ble_eq_true rfl, Nat.le_of_ble_eq_true rfl⟩ rfl rfl (Nat.le_of_ble_eq_true rfl) (C_X5_get) ?_
      refine mJ_aload_n dX4_tryToShow_78 rfl ?_
      refine mJ_iconst (v := 3) dX4_tryToShow_79 rfl ?_
      refine mJ_cV1i dX4_tryToShow_80 e_X5_get n_X4_66 ⟨Nat.le_of_ble_eq_true rfl, Nat.le_of_ble_eq_true rfl⟩ rfl rfl (Nat.le_of_ble_eq_true rfl) (C_X5_get) ?_
      refine mJ_cV5v dX4_tryToShow_83 e_X2_find n_X4_94 ⟨Nat.le_of_ble_eq_true rfl, Nat.le_of_ble_eq_true rfl⟩ rfl rfl (Nat.le_of_ble_eq_true rfl) (C_X2_find_21) ?_
      refine mJ_aload_n dX4_tryToShow_86 rfl ?_
      refine mJ_get dX4_tryToShow_87 f_X4_42 rfl rfl ?_
      refine mJ_get_21_5 dX4_tryToShow_90 f_X4_98 ?_
      refine mJ_top (b2i_f (fun z => g1 ((B.hin h s hh hss).mp z))) ?_
      refine mJ_if_eq 159 dX4_tryToShow_93 rfl (fun _ => ?_) (fun c => absurd c (by decide))
      refine mJ_iinc dX4_tryToShow_159 rfl (Nat.le_of_ble_eq_true rfl) (v := nI (k + 1)) (nI_1 k) (ls2 := [_, _, _, _, _]) rfl ?_
      refine mJ_goto 43 dX4_tryToShow_162 rfl ?_
      exact hj
set_option maxHeartbeats 4000000 in
set_option maxRecDepth 100000 in
theorem C_X4_tryToShow {C d : aF} {nA nH nO : Nat} (B : bC C d nA nH nO) {Hs : tH} {T1 : tT} {P1 : tP} {Od : tO} {T2 : tT} {P2 : tP} {RS SD XS YS OR : aF} {shn : Int32} {W on : aF} (hs : sR d nH RS SD XS YS W on) {h : Nat} (hh : h < nH) {r' s' : Int32} (he : tR d on nA nH shn h = (r', s')) : ∃ (T1' : tT) (P1' : tP), mCt k_X4_tryToShow [.ref 7, .ref 1, .int (nI h)] (cH C Hs (RS, SD, XS, YS, OR, shn) T1 P1 Od T2 P2) (some (.int r')) (cH C Hs (RS, uN SD h s' s', uN XS h s' (p_x d h s'), uN YS h s' (p_y d h s'), OR, shn) (T1') (P1') Od T2 P2) := by
  obtain ⟨w1, w2, w3, w4, w5, w6, w7, w8, w9, w10⟩ := id B.wd
  by_cases g1 : q_sn d (p_an d h)
  · by_cases g2 : shn < d 6
    · have hL := tryL_sd (w8 h hh) (w9 h hh)
      obtain ⟨P1', hj⟩ := L_X4_tryToShow (Hs := Hs) (Od := Od) (T2 := T2) (P2 := P2) (OR := OR) (shn := shn) B hs hh (B.hL h hh T1.1) hL (tryL d h).length 0 3 P1 r' s' (by omega) (by rw [List.drop_zero]; exact ((iif_t g1).trans (if_pos g2)).symm.trans he)
      refine ⟨(trL (T1.1, 0) (gH C (nI h) 9) (gH C (nI h) 3) (gH C (nI h) 5) (gS C 3)).1, P1', ?_⟩
      refine mCt_intro (plainFor_of_name rfl) (Nat.le_of_ble_eq_true rfl) (m_all rfl) (ls := [_, _, _, _, _]) rfl ?_
      refine mJ_aload_n dX4_tryToShow_0 rfl ?_
      refine mJ_aload_n dX4_tryToShow_1 rfl ?_
      refine mJ_iload_n dX4_tryToShow_2 rfl ?_
      refine mJ_iconst (v := 0) dX4_tryToShow_3 rfl ?_
      refine mJ_cV2i dX4_tryToShow_4 e_X5_hintValue n_X4_76 ⟨Nat.le_of_ble_eq_true rfl, Nat.le_of_ble_eq_true rfl⟩ rfl rfl (Nat.le_of_ble_eq_true rfl) (C_X5_hintValue) ?_
      refine mJ_cV1i dX4_tryToShow_7 e_X5_isAnchorInSight n_X4_80 ⟨Nat.le_of_ble_eq_true rfl, Nat.le_of_ble_eq_true rfl⟩ rfl rfl (Nat.le_of_ble_eq_true rfl) (C_X5_isAnchorInSight) ?_
      refine mJ_top (b2i_t ((B.hsn h hh).mpr g1)) ?_
      refine mJ_if_ne 15 dX4_tryToShow_10 rfl (fun _ => ?_) (fun c => absurd c (by decide))
      refine mJ_aload_n dX4_tryToShow_15 rfl ?_
      refine mJ_get_7_7 dX4_tryToShow_16 f_X4_46 ?_
      refine mJ_aload_n dX4_tryToShow_19 rfl ?_
      refine mJ_iconst (v := 2) dX4_tryToShow_20 rfl ?_
      refine mJ_cV1i dX4_tryToShow_21 e_X5_setting n_X4_83 ⟨Nat.le_of_ble_eq_true rfl, Nat.le_of_ble_eq_true rfl⟩ rfl rfl (Nat.le_of_ble_eq_true rfl) (C_X5_setting) ?_
      refine mJ_icmp_lt 29 dX4_tryToShow_24 rfl (fun c_24 => ?_) (fun c_24 => False.elim (by exact c_24 (by rw [B.hms]; exact g2)))
      refine mJ_iconst (v := 3) dX4_tryToShow_29 rfl ?_
      refine mJ_istore_n dX4_tryToShow_30 (Nat.le_of_ble_eq_true rfl) (ls2 := [_, _, _, _, _]) rfl ?_
      refine mJ_aload_n dX4_tryToShow_31 rfl ?_
      refine mJ_get dX4_tryToShow_32 f_X4_35 rfl rfl ?_
      refine mJ_aload_n dX4_tryToShow_35 rfl ?_
      refine mJ_iload_n dX4_tryToShow_36 rfl ?_
      refine mJ_cV2v dX4_tryToShow_37 e_X6_list n_X4_86 ⟨Nat.le_of_ble_eq_true rfl, Nat.le_of_ble_eq_true rfl⟩ rfl rfl (Nat.le_of_ble_eq_true rfl) (C_X6_list_18) ?_
      refine mJ_iconst (v := 0) dX4_tryToShow_40 rfl ?_
      refine mJ_istore dX4_tryToShow_41 (Nat.le_of_ble_eq_true rfl) (ls2 := [_, _, _, _, _]) rfl ?_
      exact hj
    · obtain ⟨rfl, rfl⟩ := Prod.mk.inj (((iif_t g1).trans (if_neg g2)).symm.trans he)
      refine ⟨T1, P1, ?_⟩
      rw [uN_y, uN_y, uN_y]
      refine mCt_intro (plainFor_of_name rfl) (Nat.le_of_ble_eq_true rfl) (m_all rfl) (ls := [_, _, _, _, _]) rfl ?_
      refine mJ_aload_n dX4_tryToShow_0 rfl ?_
      refine mJ_aload_n dX4_tryToShow_1 rfl ?_
      refine mJ_iload_n dX4_tryToShow_2 rfl ?_
      refine mJ_iconst (v := 0) dX4_tryToShow_3 rfl ?_
      refine mJ_cV2i dX4_tryToShow_4 e_X5_hintValue n_X4_76 ⟨Nat.le_of_ble_eq_true rfl, Nat.le_of_ble_eq_true rfl⟩ rfl rfl (Nat.le_of_ble_eq_true rfl) (C_X5_hintValue) ?_
      refine mJ_cV1i dX4_tryToShow_7 e_X5_isAnchorInSight n_X4_80 ⟨Nat.le_of_ble_eq_true rfl, Nat.le_of_ble_eq_true rfl⟩ rfl rfl (Nat.le_of_ble_eq_true rfl) (C_X5_isAnchorInSight) ?_
      refine mJ_top (b2i_t ((B.hsn h hh).mpr g1)) ?_
      refine mJ_if_ne 15 dX4_tryToShow_10 rfl (fun _ => ?_) (fun c => absurd c (by decide))
      refine mJ_aload_n dX4_tryToShow_15 rfl ?_
      refine mJ_get_7_7 dX4_tryToShow_16 f_X4_46 ?_
      refine mJ_aload_n dX4_tryToShow_19 rfl ?_
      refine mJ_iconst (v := 2) dX4_tryToShow_20 rfl ?_
      refine mJ_cV1i dX4_tryToShow_21 e_X5_setting n_X4_83 ⟨Nat.le_of_ble_eq_true rfl, Nat.le_of_ble_eq_true rfl⟩ rfl rfl (Nat.le_of_ble_eq_true rfl) (C_X5_setting) ?_
      refine mJ_icmp_lt 29 dX4_tryToShow_24 rfl (fun c_24 => False.elim (by exact g2 (by rw [← B.hms]; exact c_24))) (fun c_24 => ?_)
      refine mJ_iconst (v := 5) dX4_tryToShow_27 rfl ?_
      exact mJ_iret dX4_tryToShow_28 rfl (rfl) (rfl)
  · obtain ⟨rfl, rfl⟩ := Prod.mk.inj ((iif_f g1).symm.trans he)
    refine ⟨T1, P1, ?_⟩
    rw [uN_y, uN_y, uN_y]
    refine mCt_intro (plainFor_of_name rfl) (Nat.le_of_ble_eq_true rfl) (m_all rfl) (ls := [_, _, _, _, _]) rfl ?_
    refine mJ_aload_n dX4_tryToShow_0 rfl ?_
    refine mJ_aload_n dX4_tryToShow_1 rfl ?_
    refine mJ_iload_n dX4_tryToShow_2 rfl ?_
    refine mJ_iconst (v := 0) dX4_tryToShow_3 rfl ?_
    refine mJ_cV2i dX4_tryToShow_4 e_X5_hintValue n_X4_76 ⟨Nat.le_of_ble_eq_true rfl, Nat.le_of_ble_eq_true rfl⟩ rfl rfl (Nat.le_of_ble_eq_true rfl) (C_X5_hintValue) ?_
    refine mJ_cV1i dX4_tryToShow_7 e_X5_isAnchorInSight n_X4_80 ⟨Nat.le_of_ble_eq_true rfl, Nat.le_of_ble_eq_true rfl⟩ rfl rfl (Nat.le_of_ble_eq_true rfl) (C_X5_isAnchorInSight) ?_
    refine mJ_top (b2i_f (fun z => g1 ((B.hsn h hh).mp z))) ?_
    refine mJ_if_ne 15 dX4_tryToShow_10 rfl (fun c => absurd c (by decide)) (fun _ => ?_)
    refine mJ_iconst (v := 2) dX4_tryToShow_13 rfl ?_
    exact mJ_iret dX4_tryToShow_14 rfl (rfl) (rfl)
theorem sR_upd {d : aF} {nA nH nO : Nat} (hw : wD d nA nH nO) {RS SD XS YS W on : aF} (hs : sR d nH RS SD XS YS W on) {shn : Int32} {h : Nat} (hh : h < nH) {r' s' : Int32} (he : tR d on nA nH shn h = (r', s')) : sR d nH (rp 12 RS (nI h) r') (uN SD h s' s') (uN XS h s' (p_x d h s')) (uN YS h s' (p_y d h s')) (upd W h r') (upd on h s') := by
  have w2 := hw.2.1
  have h0 := tR_0 (on := on) hw (shn := shn) hh
  rw [he] at h0
  have h1 : r' = 0 ↔ ¬ s' = -1 := h0.1
  intro o ho
  rw [rp_in _ _ (show h < 12 by omega) (by decide)]
  by_cases q : o = h
  · subst q
    rw [upd_at, upd_at, upd_at]
    refine ⟨rfl, h1, fun z => ?_⟩
    rw [uN_n z, uN_n z, uN_n z, rp_in _ _ (show o < 12 by omega) (by decide), rp_in _ _ (show o < 12 by omega) (by decide), rp_in _ _ (show o < 12 by omega) (by decide), upd_at, upd_at, upd_at]
    exact ⟨rfl, rfl, rfl⟩
  · rw [upd_ne q, upd_ne q, upd_ne q]
    have e : ∀ (f : aF) (v : Int32), uN f h s' v o = f o := by
      intro f v
      unfold uN
      split
      · rfl
      · rw [rp_in _ _ (show h < 12 by omega) (by decide), upd_ne q]
    rw [e, e, e]
    exact hs o ho
set_option maxHeartbeats 4000000 in
set_option maxRecDepth 100000 in
theorem L_X4_arrange {C d : aF} {nA nH nO : Nat} (B : bC C d nA nH nO) {Hs : tH} {Od : tO} {T2 : tT} {P2 : tP} {OR : aF} (hO : oF OR (ordL d nO)) : ∀ (m k : Nat) (x4 x5 : Value) (RS SD XS YS : aF) (T1 : tT) (P1 : tP) (W on : aF) (shn : Int32), k + m = nO → sR d nH RS SD XS YS W on → (∀ j v, k ≤ j → (ordL d nO)[j]? = some v → on v = -1) → ∃ (RS' SD' XS' YS' : aF) (T1' : tT) (P1' : tP), sR d nH RS' SD' XS' YS' (p_run d nA nH (W, on, shn) ((ordL d nO).drop k)).1 (p_run d nA nH (W, on, shn) ((ordL d nO).drop k)).2.1 ∧ mJ k_X4_arrange 13 [.ref 7, .ref 1, .int (nI nO), .int (nI k), x4, x5] [] (cH C Hs (RS, SD, XS, YS, OR, shn) T1 P1 Od T2 P2) (some (.int (p_run d nA nH (W, on, shn) ((ordL d nO).drop k)).2.2)) (cH C Hs (RS', SD', XS', YS', OR, (p_run d nA nH (W, on, shn) ((ordL d nO).drop k)).2.2) (T1') (P1') Od T2 P2) := by
  obtain ⟨w1, w2, w3, w4, w5, w6, w7, w8, w9, w10⟩ := id B.wd
  have hlen := ordL_len d nO
  have hnd := ordL_nodup B.hwi
  intro m
  induction m with
  | zero =>
    intro k x4 x5 RS SD XS YS T1 P1 W on shn hk hs hout
    have hd : (ordL d nO).drop k = [] := List.drop_eq_nil_of_le (by omega)
    rw [hd]
    refine ⟨RS, SD, XS, YS, T1, P1, hs, ?_⟩
    refine mJ_iload_n dX4_arrange_13 rfl ?_
    refine mJ_iload_n dX4_arrange_14 rfl ?_
    refine mJ_icmp_ge 69 dX4_arrange_15 rfl (fun c_15 => ?_) (fun c_15 => False.elim (by exact c_15 (by rw [show k = nO by omega]; exact Int32.le_refl _)))
    refine mJ_aload_n dX4_arrange_69 rfl ?_
    refine mJ_get_7_7 dX4_arrange_70 f_X4_46 ?_
    exact mJ_iret dX4_arrange_73 rfl (rfl) (rfl)
  | succ m ih =>
    intro k x4 x5 RS SD XS YS T1 P1 W on shn hk0 hs hout
    have hk : k < nO := by omega
    obtain ⟨h, hh1⟩ : ∃ h, (ordL d nO)[k]? = some h := ⟨_, List.getElem?_eq_getElem (by omega)⟩
    have hh : h < nH := ordL_mem B.wd (List.mem_of_getElem? hh1)
    have hh12 : h < 12 := by omega
    have ho : OR k = nI h := hO k h hh1
    have hd : (ordL d nO).drop k = h :: (ordL d nO).drop (k + 1) := by
      rw [List.drop_eq_getElem_cons (by omega)]
      congr 1
      exact (List.getElem?_eq_some_iff.mp hh1).2
    have hon : on h = -1 := hout k h (Nat.le_refl _) hh1
    obtain ⟨r', s', he⟩ : ∃ r' s', tR d on nA nH shn h = (r', s') := ⟨_, _, rfl⟩
    have hst := p_step_tR (d := d) (nA := nA) (nH := nH) (W := W) (shn := shn) hon
    rw [he] at hst
    have h0 := tR_0 (on := on) B.wd (shn := shn) hh
    rw [he] at h0
    have hr0 : r' = 0 ↔ ¬ s' = -1 := h0.1
    have hrun : p_run d nA nH (W, on, shn) (h :: (ordL d nO).drop (k + 1)) = p_run d nA nH (upd W h r', upd on h s', if s' = -1 then shn else shn + 1) ((ordL d nO).drop (k + 1)) := congrArg (fun z => p_run d nA nH z ((ordL d nO).drop (k + 1))) hst
    rw [hd, hrun]
    have hout2 : ∀ j v, k + 1 ≤ j → (ordL d nO)[j]? = some v → upd on h s' v = -1 := by
      intro j v hj hv
      rw [upd_ne (fun e => by
        subst e
        have := List.getElem?_inj (i := k) (j := j) (by omega) hnd |>.mp (hh1.trans hv.symm)
        omega)]
      exact hout j v (by omega) hv
    obtain ⟨T1', P1', ht⟩ := C_X4_tryToShow (Hs := Hs) (T1 := T1) (P1 := P1) (Od := Od) (T2 := T2) (P2 := P2) (OR := OR) (shn := shn) B hs hh he
    by_cases g : s' = -1
    · rw [if_pos g]
      obtain ⟨R1, R2, R3, R4, R5, R6, hz, hj⟩ := ih (k + 1) (.int (nI h)) (.int r') _ _ _ _ T1' P1' (upd W h r') (upd on h s') (shn) (by omega) (sR_upd B.wd hs hh he) hout2
      refine ⟨R1, R2, R3, R4, R5, R6, hz, ?_⟩
      refine mJ_iload_n dX4_arrange_13 rfl ?_
      refine mJ_iload_n dX4_arrange_14 rfl ?_
      refine mJ_icmp_ge 69 dX4_arrange_15 rfl (fun c_15 => False.elim (by exact nI_ge hk (by omega) c_15)) (fun c_15 => ?_)
      refine mJ_aload_n dX4_arrange_18 rfl ?_
      refine mJ_get dX4_arrange_19 f_X4_29 rfl rfl ?_
      refine mJ_iload_n dX4_arrange_22 rfl ?_
      refine mJ_cV1i dX4_arrange_23 e_X3_get n_X4_54 ⟨Nat.le_of_ble_eq_true rfl, Nat.le_of_ble_eq_true rfl⟩ rfl rfl (Nat.le_of_ble_eq_true rfl) (C_X3_get rfl rfl (Nat.le_of_ble_eq_true rfl)) ?_
      refine mJ_top ((rg_in OR (show k < 12 by omega) (by decide)).trans ho) ?_
      refine mJ_istore dX4_arrange_26 (Nat.le_of_ble_eq_true rfl) (ls2 := [_, _, _, _, _, _]) rfl ?_
      refine mJ_aload_n dX4_arrange_28 rfl ?_
      refine mJ_aload_n dX4_arrange_29 rfl ?_
      refine mJ_iload dX4_arrange_30 rfl ?_
      refine mJ_cV2i dX4_arrange_32 e_X4_tryToShow n_X4_58 ⟨Nat.le_of_ble_eq_true rfl, Nat.le_of_ble_eq_true rfl⟩ rfl rfl (Nat.le_of_ble_eq_true rfl) (ht) ?_
      refine mJ_istore dX4_arrange_35 (Nat.le_of_ble_eq_true rfl) (ls2 := [_, _, _, _, _, _]) rfl ?_
      refine mJ_aload_n dX4_arrange_37 rfl ?_
      refine mJ_get dX4_arrange_38 f_X4_14 rfl rfl ?_
      refine mJ_iload dX4_arrange_41 rfl ?_
      refine mJ_iload dX4_arrange_43 rfl ?_
      refine mJ_cV2v dX4_arrange_45 e_X3_put n_X4_62 ⟨Nat.le_of_ble_eq_true rfl, Nat.le_of_ble_eq_true rfl⟩ rfl rfl (Nat.le_of_ble_eq_true rfl) (C_put_9) ?_
      refine mJ_iload dX4_arrange_48 rfl ?_
      refine mJ_if_ne 63 dX4_arrange_50 rfl (fun c_50 => ?_) (fun c_50 => False.elim (by exact hr0.mp c_50 g))
      refine mJ_iinc dX4_arrange_63 rfl (Nat.le_of_ble_eq_true rfl) (v := nI (k + 1)) (nI_1 k) (ls2 := [_, _, _, _, _, _]) rfl ?_
      refine mJ_goto 13 dX4_arrange_66 rfl ?_
      exact hj
    · rw [if_neg g]
      obtain ⟨R1, R2, R3, R4, R5, R6, hz, hj⟩ := ih (k + 1) (.int (nI h)) (.int r') _ _ _ _ T1' P1' (upd W h r') (upd on h s') (shn + 1) (by omega) (sR_upd B.wd hs hh he) hout2
      refine ⟨R1, R2, R3, R4, R5, R6, hz, ?_⟩
      refine mJ_iload_n dX4_arrange_13 rfl ?_
      refine mJ_iload_n dX4_arrange_14 rfl ?_
      refine mJ_icmp_ge 69 dX4_arrange_15 rfl (fun c_15 => False.elim (by exact nI_ge hk (by omega) c_15)) (fun c_15 => ?_)
      refine mJ_aload_n dX4_arrange_18 rfl ?_
      refine mJ_get dX4_arrange_19 f_X4_29 rfl rfl ?_
      refine mJ_iload_n dX4_arrange_22 rfl ?_
      refine mJ_cV1i dX4_arrange_23 e_X3_get n_X4_54 ⟨Nat.le_of_ble_eq_true rfl, Nat.le_of_ble_eq_true rfl⟩ rfl rfl (Nat.le_of_ble_eq_true rfl) (C_X3_get rfl rfl (Nat.le_of_ble_eq_true rfl)) ?_
      refine mJ_top ((rg_in OR (show k < 12 by omega) (by decide)).trans ho) ?_
      refine mJ_istore dX4_arrange_26 (Nat.le_of_ble_eq_true rfl) (ls2 := [_, _, _, _, _, _]) rfl ?_
      refine mJ_aload_n dX4_arrange_28 rfl ?_
      refine mJ_aload_n dX4_arrange_29 rfl ?_
      refine mJ_iload dX4_arrange_30 rfl ?_
      refine mJ_cV2i dX4_arrange_32 e_X4_tryToShow n_X4_58 ⟨Nat.le_of_ble_eq_true rfl, Nat.le_of_ble_eq_true rfl⟩ rfl rfl (Nat.le_of_ble_eq_true rfl) (ht) ?_
      refine mJ_istore dX4_arrange_35 (Nat.le_of_ble_eq_true rfl) (ls2 := [_, _, _, _, _, _]) rfl ?_
      refine mJ_aload_n dX4_arrange_37 rfl ?_
      refine mJ_get dX4_arrange_38 f_X4_14 rfl rfl ?_
      refine mJ_iload dX4_arrange_41 rfl ?_
      refine mJ_iload dX4_arrange_43 rfl ?_
      refine mJ_cV2v dX4_arrange_45 e_X3_put n_X4_62 ⟨Nat.le_of_ble_eq_true rfl, Nat.le_of_ble_eq_true rfl⟩ rfl rfl (Nat.le_of_ble_eq_true rfl) (C_put_9) ?_
      refine mJ_iload dX4_arrange_48 rfl ?_
      refine mJ_if_ne 63 dX4_arrange_50 rfl (fun c_50 => False.elim (by exact c_50 (hr0.mpr g))) (fun c_50 => ?_)
      refine mJ_aload_n dX4_arrange_53 rfl ?_
      refine mJ_dup dX4_arrange_54 rfl ?_
      refine mJ_get_7_7 dX4_arrange_55 f_X4_46 ?_
      refine mJ_iconst (v := 1) dX4_arrange_58 rfl ?_
      refine mJ_iadd dX4_arrange_59 ?_
      refine mJ_put_7_7 dX4_arrange_60 p_X4_46 ?_
      refine mJ_iinc dX4_arrange_63 rfl (Nat.le_of_ble_eq_true rfl) (v := nI (k + 1)) (nI_1 k) (ls2 := [_, _, _, _, _, _]) rfl ?_
      refine mJ_goto 13 dX4_arrange_66 rfl ?_
      exact hj
set_option maxHeartbeats 4000000 in
set_option maxRecDepth 100000 in
theorem C_X4_arrange {C d : aF} {nA nH nO : Nat} (B : bC C d nA nH nO) {Hs : tH} {T1 : tT} {P1 : tP} {Od : tO} {T2 : tT} {P2 : tP} {RS SD XS YS OR : aF} {shn : Int32} : ∃ (RS' SD' XS' YS' OR' : aF) (T1' : tT) (P1' : tP), sR d nH RS' SD' XS' YS' (p_all d nA nH nO).1 (p_all d nA nH nO).2.1 ∧ mCt k_X4_arrange [.ref 7, .ref 1] (cH C Hs (RS, SD, XS, YS, OR, shn) T1 P1 Od T2 P2) (some (.int (p_all d nA nH nO).2.2)) (cH C Hs (RS', SD', XS', YS', OR', (p_all d nA nH nO).2.2) (T1') (P1') Od T2 P2) := by
  obtain ⟨w1, w2, w3, w4, w5, w6, w7, w8, w9, w10⟩ := id B.wd
  obtain ⟨R1, R2, R3, R4, R5, R6, hz, hj⟩ := L_X4_arrange (Hs := Hs) (Od := Od) (T2 := T2) (P2 := P2) B (B.hor OR) nO 0 .null .null (iK RS 1 nH) SD XS YS T1 P1 (fun _ => 1) (fun _ => -1) 0 (by omega) (fun o ho => ⟨if_pos ho, by rw [show iK RS 1 nH o = 1 from if_pos ho]; exact ⟨fun z => absurd z (by decide), fun z => absurd rfl z⟩, fun z => absurd rfl z⟩) (fun j v _ _ => rfl)
  rw [List.drop_zero] at hz hj
  refine ⟨R1, R2, R3, R4, orW C OR nH nH, R5, R6, hz, ?_⟩
  refine mCt_intro (plainFor_of_name rfl) (Nat.le_of_ble_eq_true rfl) (m_all rfl) (ls := [_, _, _, _, _, _]) rfl ?_
  refine mJ_aload_n dX4_arrange_0 rfl ?_
  refine mJ_iconst (v := 0) dX4_arrange_1 rfl ?_
  refine mJ_put_7_7 dX4_arrange_2 p_X4_46 ?_
  refine mJ_aload_n dX4_arrange_5 rfl ?_
  refine mJ_aload_n dX4_arrange_6 rfl ?_
  refine mJ_cV1i dX4_arrange_7 e_X4_orderOpenHints n_X4_50 ⟨Nat.le_of_ble_eq_true rfl, Nat.le_of_ble_eq_true rfl⟩ rfl rfl (Nat.le_of_ble_eq_true rfl) (C_X4_orderOpenHints B.h5 w2) ?_
  refine mJ_top (by rw [B.hno]) ?_
  refine mJ_istore_n dX4_arrange_10 (Nat.le_of_ble_eq_true rfl) (ls2 := [_, _, _, _, _, _]) rfl ?_
  refine mJ_iconst (v := 0) dX4_arrange_11 rfl ?_
  refine mJ_istore_n dX4_arrange_12 (Nat.le_of_ble_eq_true rfl) (ls2 := [_, _, _, _, _, _]) rfl ?_
  exact hj
