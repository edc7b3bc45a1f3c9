/-! VIEW AND ANCHORS MOVED ALIKE -/
theorem iZ_ex (x : Int32) : ∃ X : Int, x = iZ X := ⟨x.toInt, (Int32.ofInt_toInt x).symm⟩
theorem i_r1 (a b c : Int32) : a + b + c = a + c + b := by
  obtain ⟨A, rfl⟩ := iZ_ex a
  obtain ⟨B, rfl⟩ := iZ_ex b
  obtain ⟨C, rfl⟩ := iZ_ex c
  simp only [iZ_add]
  congr 1
  omega
theorem i_r2 (a b c e : Int32) : a + b + c - e = a + c - e + b := by
  obtain ⟨A, rfl⟩ := iZ_ex a
  obtain ⟨B, rfl⟩ := iZ_ex b
  obtain ⟨C, rfl⟩ := iZ_ex c
  obtain ⟨E, rfl⟩ := iZ_ex e
  simp only [iZ_add, iZ_sub]
  congr 1
  omega
theorem i_r3 (a b c e : Int32) : a + b + c - (e + b) = a + c - e := by
  obtain ⟨A, rfl⟩ := iZ_ex a
  obtain ⟨B, rfl⟩ := iZ_ex b
  obtain ⟨C, rfl⟩ := iZ_ex c
  obtain ⟨E, rfl⟩ := iZ_ex e
  simp only [iZ_add, iZ_sub]
  congr 1
  omega
theorem i_r4 (a b c e : Int32) : a + b - c - e = a - c - e + b := by
  obtain ⟨A, rfl⟩ := iZ_ex a
  obtain ⟨B, rfl⟩ := iZ_ex b
  obtain ⟨C, rfl⟩ := iZ_ex c
  obtain ⟨E, rfl⟩ := iZ_ex e
  simp only [iZ_add, iZ_sub]
  congr 1
  omega
theorem i_r5 (a b c e : Int32) : a + b + c + e = a + c + e + b := by rw [i_r1 a b c, i_r1 (a + c) b e]
theorem le_sh {a b t : Int32} (ha : iR a (-20000) 20000) (hb : iR b (-20000) 20000) (ht : iR t (-2000) 2000) : a + t ≤ b + t ↔ a ≤ b := by
  obtain ⟨A, rfl, a1, a2⟩ := iR_ex ha
  obtain ⟨B, rfl, b1, b2⟩ := iR_ex hb
  obtain ⟨T, rfl, t1, t2⟩ := iR_ex ht
  rw [iZ_add, iZ_add, iZ_leI (by omega) (by omega) (by omega) (by omega), iZ_leI (by omega) (by omega) (by omega) (by omega)]
  omega
theorem lt_sh {a b t : Int32} (ha : iR a (-20000) 20000) (hb : iR b (-20000) 20000) (ht : iR t (-2000) 2000) : a + t < b + t ↔ a < b := by
  obtain ⟨A, rfl, a1, a2⟩ := iR_ex ha
  obtain ⟨B, rfl, b1, b2⟩ := iR_ex hb
  obtain ⟨T, rfl, t1, t2⟩ := iR_ex ht
  rw [iZ_add, iZ_add, iZ_ltI (by omega) (by omega) (by omega) (by omega), iZ_ltI (by omega) (by omega) (by omega) (by omega)]
  omega
theorem iR_plus {a b : Int32} {l1 h1 l2 h2 : Int} (ha : iR a l1 h1) (hb : iR b l2 h2) (q1 : -2147483648 ≤ l1 + l2) (q2 : h1 + h2 < 2147483648) : iR (a + b) (l1 + l2) (h1 + h2) := by
  obtain ⟨A, rfl, a1, a2⟩ := iR_ex ha
  obtain ⟨B, rfl, b1, b2⟩ := iR_ex hb
  rw [iZ_add]
  exact iR_Z (by omega) (by omega) q1 q2
theorem iR_min {a b : Int32} {l1 h1 l2 h2 : Int} (ha : iR a l1 h1) (hb : iR b l2 h2) (q1 : -2147483648 ≤ l1 - h2) (q2 : h1 - l2 < 2147483648) : iR (a - b) (l1 - h2) (h1 - l2) := by
  obtain ⟨A, rfl, a1, a2⟩ := iR_ex ha
  obtain ⟨B, rfl, b1, b2⟩ := iR_ex hb
  rw [iZ_sub]
  exact iR_Z (by omega) (by omega) q1 q2
theorem mt_sh {x y w h ox oy ow oh dx dy : Int32} (hx : iR x (-10000) 10000) (hy : iR y (-10000) 10000) (hw : iR w 0 1000) (hh : iR h 0 1000) (hox : iR ox (-10000) 10000) (hoy : iR oy (-10000) 10000) (how : iR ow 0 1000) (hoh : iR oh 0 1000) (hdx : iR dx (-2000) 2000) (hdy : iR dy (-2000) 2000) : q_mt (x + dx) (y + dy) w h (ox + dx) (oy + dy) ow oh ↔ q_mt x y w h ox oy ow oh := by
  have m : ∀ {a : Int32}, iR a (-10000) 10000 → iR a (-20000) 20000 := fun h => iR_mono h (by omega) (by omega)
  have p : ∀ {a b : Int32}, iR a (-10000) 10000 → iR b 0 1000 → iR (a + b) (-20000) 20000 := fun h k => iR_mono (iR_plus h k (by omega) (by omega)) (by omega) (by omega)
  unfold q_mt
  rw [i_r1 ox dx ow, i_r1 x dx w, i_r1 oy dy oh, i_r1 y dy h, le_sh (p hox how) (m hx) hdx, le_sh (p hx hw) (m hox) hdx, le_sh (p hoy hoh) (m hy) hdy, le_sh (p hy hh) (m hoy) hdy]
theorem sl_sh {b l ob ol t : Int32} (hb : iR b (-10000) 10000) (hl : iR l 0 1000) (ho : iR ob (-10000) 10000) (hol : iR ol 0 1000) (ht : iR t (-2000) 2000) : q_sl (b + t) l (ob + t) ol ↔ q_sl b l ob ol := by
  have m : ∀ {a : Int32}, iR a (-10000) 10000 → iR a (-20000) 20000 := fun h => iR_mono h (by omega) (by omega)
  have p : ∀ {a b : Int32}, iR a (-10000) 10000 → iR b 0 1000 → iR (a + b) (-20000) 20000 := fun h k => iR_mono (iR_plus h k (by omega) (by omega)) (by omega) (by omega)
  unfold q_sl
  rw [i_r1 ob t ol, i_r1 b t l, lt_sh (m hb) (m ho) ht, lt_sh (p ho hol) (p hb hl) ht]
theorem by_sh {b l fr sz t : Int32} (hb : iR b (-1500) 1500) (hl : iR l 1 200) (hf : iR fr (-2000) 2000) (hs : iR sz 20 400) (ht : iR t (-2000) 2000) : v_by (b + t) l (fr + t) sz = v_by b l fr sz := by
  obtain ⟨B, rfl, b1, b2⟩ := iR_ex hb
  obtain ⟨L, rfl, l1, l2⟩ := iR_ex hl
  obtain ⟨F, rfl, f1, f2⟩ := iR_ex hf
  obtain ⟨S, rfl, s1, s2⟩ := iR_ex hs
  obtain ⟨T, rfl, t1, t2⟩ := iR_ex ht
  rw [iZ_add, iZ_add]
  obtain ⟨V, e, hV⟩ := v_by_Z (B := B + T) (L := L) (F := F + T) (S := S) (by omega) (by omega) (by omega) (by omega) (by omega) (by omega) (by omega) (by omega)
  obtain ⟨V2, e2, hV2⟩ := v_by_Z (B := B) (L := L) (F := F) (S := S) (by omega) (by omega) (by omega) (by omega) (by omega) (by omega) (by omega) (by omega)
  rw [e, e2, show V = V2 by omega]
theorem ms_sh {m b l p fr sz t : Int32} (hb : iR b (-1500) 1500) (hl : iR l 1 200) (hf : iR fr (-2000) 2000) (hs : iR sz 20 400) (ht : iR t (-2000) 2000) : v_ms m (b + t) l p (fr + t) sz = v_ms m b l p fr sz := by
  unfold v_ms
  rw [by_sh hb hl hf hs ht]
theorem ms_R {m b l p fr sz : Int32} (hb : iR b (-1500) 1500) (hl : iR l 1 200) (hp : iR p (-3000) 3000) (hm : iR m 0 20) (hf : iR fr (-2000) 2000) (hs : iR sz 20 400) : iR (v_ms m b l p fr sz) (-6000) 6000 := by
  obtain ⟨B, rfl, b1, b2⟩ := iR_ex hb
  obtain ⟨L, rfl, l1, l2⟩ := iR_ex hl
  obtain ⟨F, rfl, f1, f2⟩ := iR_ex hf
  obtain ⟨S, rfl, s1, s2⟩ := iR_ex hs
  obtain ⟨P, rfl, p1, p2⟩ := iR_ex hp
  obtain ⟨M, rfl, m1, m2⟩ := iR_ex hm
  obtain ⟨V, e, hV⟩ := v_by_Z (B := B) (L := L) (F := F) (S := S) (by omega) (by omega) (by omega) (by omega) (by omega) (by omega) (by omega) (by omega)
  have c1 : iR (iZ V) (-6000) 6000 := iR_Z (by omega) (by omega) (by omega) (by omega)
  have c2 : iR (iZ P - iZ M) (-6000) 6000 := by rw [iZ_sub]; exact iR_Z (by omega) (by omega) (by omega) (by omega)
  have c3 : iR (iZ P - (iZ L - 1 - iZ M)) (-6000) 6000 := by
    rw [show (1 : Int32) = iZ 1 from rfl, iZ_sub, iZ_sub, iZ_sub]
    exact iR_Z (by omega) (by omega) (by omega) (by omega)
  unfold v_ms
  rw [e]
  by_cases q1 : iZ L ≤ iZ S
  · rw [if_pos q1]
    by_cases g : q_gd (iZ P) (iZ L) (iZ M)
    · rw [iif_t g]
      by_cases q2 : iZ V ≤ iZ P - iZ M
      · rw [if_pos q2]
        by_cases q3 : iZ P - (iZ L - 1 - iZ M) ≤ iZ V
        · rw [if_pos q3]; exact c1
        · rw [if_neg q3]; exact c3
      · rw [if_neg q2]; exact c2
    · rw [iif_f g]; exact c1
  · rw [if_neg q1]
    exact ⟨by decide, by decide⟩
theorem iif_R {p : Prop} {a b : Int32} {lo hi : Int} (ha : iR a lo hi) (hb : iR b lo hi) : iR (iif p a b) lo hi := by
  by_cases q : p
  · rw [iif_t q]; exact ha
  · rw [iif_f q]; exact hb
/-- how far a hint's place can lie -/
theorem p_R {d : aF} {nA nH nO : Nat} (hw : wD d nA nH nO) (hR : wR d nA nH) {h : Nat} (hh : h < nH) (s : Int32) : iR (p_ln d h s) 1 200 ∧ iR (p_b0 d h s) (-1500) 1500 ∧ iR (p_a0 d h s) (-3000) 3000 ∧ iR (p_sh d h s) (-6000) 6000 ∧ iR (p_x d h s) (-8000) 8000 ∧ iR (p_y d h s) (-8000) 8000 := by
  obtain ⟨a, ha, e⟩ := hw.2.2.2.2.2.2.1 h hh
  have ea := p_an_of e (Nat.lt_of_lt_of_le ha hw.1)
  obtain ⟨A0, A1, A2, A3⟩ := hR.1 a ha
  obtain ⟨H1, H2, -⟩ := hR.2.1 h hh
  obtain ⟨R4, R5, -, -, -, R0, R1, R2, R3⟩ := hR.2.2
  have hbg : iR (p_bg d h s) (-1000) 1000 := by unfold p_bg; rw [ea]; exact iif_R A0 A1
  have hsz : iR (p_sz d h s) 1 200 := by unfold p_sz; rw [ea]; exact iif_R A2 A3
  have hln : iR (p_ln d h s) 1 200 := iif_R H1 H2
  have hb0 : iR (p_b0 d h s) (-1500) 1500 := (beg_eq (g := dH d h 4) hbg hsz hln).2
  have ha0 : iR (p_a0 d h s) (-3000) 3000 := (mid_eq hbg hsz hb0).2
  have hsh : iR (p_sh d h s) (-6000) 6000 := by
    unfold p_sh
    by_cases q : dH d h 6 = 1
    · rw [if_pos q]; exact ms_R hb0 hln ha0 R5 (iif_R R0 R1) (iif_R R2 R3)
    · rw [if_neg q]; exact ⟨by decide, by decide⟩
  have hal : iR (p_al d h s) (-8000) 8000 := iR_mono (iR_plus hb0 hsh (by omega) (by omega)) (by omega) (by omega)
  refine ⟨hln, hb0, ha0, hsh, ?_, ?_⟩
  · unfold p_x
    rw [ea]
    exact iif_R hal (iif_R (iR_mono (iR_min (iR_min A0 R4 (by omega) (by omega)) H1 (by omega) (by omega)) (by omega) (by omega)) (iR_mono (iR_plus (iR_plus A0 A2 (by omega) (by omega)) R4 (by omega) (by omega)) (by omega) (by omega)))
  · unfold p_y
    rw [ea]
    exact iif_R (iif_R (iR_mono (iR_min (iR_min A1 R4 (by omega) (by omega)) H2 (by omega) (by omega)) (by omega) (by omega)) (iR_mono (iR_plus (iR_plus A1 A3 (by omega) (by omega)) R4 (by omega) (by omega)) (by omega) (by omega))) hal
/-- d' is d with view and anchors moved; what is remembered is left open -/
def tr (d d' : aF) (nA : Nat) (dx dy : Int32) : Prop := d' 0 = d 0 + dx ∧ d' 1 = d 1 + dy ∧ (∀ a, a < nA → dA d' a 0 = dA d a 0 + dx ∧ dA d' a 1 = dA d a 1 + dy) ∧ (∀ c, (2 ≤ c ∧ c < 10) ∨ (30 ≤ c ∧ c < 160) → d' c = d c)
theorem tr_H {d d' : aF} {nA : Nat} {dx dy : Int32} (T : tr d d' nA dx dy) {h k : Nat} (hh : h < 12) (hk : k < 8) : dH d' h k = dH d h k := T.2.2.2 _ (by omega)
theorem tr_A {d d' : aF} {nA : Nat} {dx dy : Int32} (T : tr d d' nA dx dy) {a k : Nat} (ha : a < 10) (hk : k = 2 ∨ k = 3) : dA d' a k = dA d a k := T.2.2.2 _ (by omega)
theorem tr_p {d d' : aF} {nA nH nO : Nat} {dx dy : Int32} (hw : wD d nA nH nO) (hR : wR d nA nH) (T : tr d d' nA dx dy) (hdx : iR dx (-2000) 2000) (hdy : iR dy (-2000) 2000) {h : Nat} (hh : h < nH) (s : Int32) : p_x d' h s = p_x d h s + dx ∧ p_y d' h s = p_y d h s + dy ∧ (p_in d' h s ↔ p_in d h s) := by
  obtain ⟨a, ha, e⟩ := hw.2.2.2.2.2.2.1 h hh
  have la : a < 10 := Nat.lt_of_lt_of_le ha hw.1
  have lh : h < 12 := Nat.lt_of_lt_of_le hh hw.2.1
  have ea := p_an_of e la
  have ea' : p_an d' h = a := p_an_of ((tr_H T lh (by omega)).trans e) la
  obtain ⟨rln, rb0, ra0, rsh, rx, ry⟩ := p_R hw hR hh s
  obtain ⟨A0, A1, A2, A3⟩ := hR.1 a ha
  obtain ⟨H1, H2, -⟩ := hR.2.1 h hh
  obtain ⟨R4, R5, -, -, -, R0, R1, R2, R3⟩ := hR.2.2
  have g1 : dH d' h 1 = dH d h 1 := tr_H T lh (by omega)
  have g2 : dH d' h 2 = dH d h 2 := tr_H T lh (by omega)
  have g4 : dH d' h 4 = dH d h 4 := tr_H T lh (by omega)
  have g6 : dH d' h 6 = dH d h 6 := tr_H T lh (by omega)
  have c2 : d' 2 = d 2 := T.2.2.2 2 (by omega)
  have c3 : d' 3 = d 3 := T.2.2.2 3 (by omega)
  have c4 : d' 4 = d 4 := T.2.2.2 4 (by omega)
  have c5 : d' 5 = d 5 := T.2.2.2 5 (by omega)
  have ebg : p_bg d' h s = p_bg d h s + iif (q_lv s) dx dy := by
    unfold p_bg
    rw [ea, ea', (T.2.2.1 a ha).1, (T.2.2.1 a ha).2]
    by_cases q : q_lv s
    · rw [iif_t q, iif_t q, iif_t q]
    · rw [iif_f q, iif_f q, iif_f q]
  have esz : p_sz d' h s = p_sz d h s := by
    unfold p_sz
    rw [ea, ea', tr_A T la (Or.inl rfl), tr_A T la (Or.inr rfl)]
  have eln : p_ln d' h s = p_ln d h s := by
    unfold p_ln
    rw [g1, g2]
  have eb0 : p_b0 d' h s = p_b0 d h s + iif (q_lv s) dx dy := by
    unfold p_b0
    rw [ebg, esz, eln, g4]
    by_cases q : dH d h 4 = 0
    · rw [if_pos q, if_pos q]
    · rw [if_neg q, if_neg q]
      by_cases q1 : dH d h 4 = 1
      · rw [if_pos q1, if_pos q1, i_r1]
      · rw [if_neg q1, if_neg q1, i_r2]
  have ea0 : p_a0 d' h s = p_a0 d h s := by
    unfold p_a0
    rw [ebg, esz, eb0, i_r3]
  have esh : p_sh d' h s = p_sh d h s := by
    unfold p_sh
    rw [g6, eb0, eln, ea0, c5, c2, c3]
    by_cases q : dH d h 6 = 1
    · rw [if_pos q, if_pos q]
      have ef : iif (q_lv s) (d' 0) (d' 1) = iif (q_lv s) (d 0) (d 1) + iif (q_lv s) dx dy := by
        rw [T.1, T.2.1]
        by_cases q : q_lv s
        · rw [iif_t q, iif_t q, iif_t q]
        · rw [iif_f q, iif_f q, iif_f q]
      rw [ef]
      exact ms_sh rb0 rln (iif_R R0 R1) (iif_R R2 R3) (iif_R hdx hdy)
    · rw [if_neg q, if_neg q]
  have ex : p_x d' h s = p_x d h s + dx := by
    unfold p_x p_al
    rw [eb0, esh, ea, ea', (T.2.2.1 a ha).1, c4, g1, tr_A T la (Or.inl rfl)]
    by_cases q : q_lv s
    · rw [iif_t q, iif_t q, iif_t q, i_r1]
    · rw [iif_f q, iif_f q]
      by_cases q1 : q_bf s
      · rw [iif_t q1, iif_t q1, i_r4]
      · rw [iif_f q1, iif_f q1, i_r5]
  have ey : p_y d' h s = p_y d h s + dy := by
    unfold p_y p_al
    rw [eb0, esh, ea, ea', (T.2.2.1 a ha).2, c4, g2, tr_A T la (Or.inr rfl)]
    by_cases q : q_lv s
    · rw [iif_t q, iif_t q]
      by_cases q1 : q_bf s
      · rw [iif_t q1, iif_t q1, i_r4]
      · rw [iif_f q1, iif_f q1, i_r5]
    · rw [iif_f q, iif_f q, iif_f q, i_r1]
  refine ⟨ex, ey, ?_⟩
  unfold p_in
  rw [ex, ey, g1, g2, T.1, T.2.1, c2, c3]
  rw [sl_sh (iR_mono rx (by omega) (by omega)) (iR_mono H1 (by omega) (by omega)) (iR_mono R0 (by omega) (by omega)) (iR_mono R2 (by omega) (by omega)) hdx,
    sl_sh (iR_mono ry (by omega) (by omega)) (iR_mono H2 (by omega) (by omega)) (iR_mono R1 (by omega) (by omega)) (iR_mono R3 (by omega) (by omega)) hdy]
theorem tr_sn {d d' : aF} {nA nH : Nat} {dx dy : Int32} (hR : wR d nA nH) (hA : nA ≤ 10) (T : tr d d' nA dx dy) (hdx : iR dx (-2000) 2000) (hdy : iR dy (-2000) 2000) {a : Nat} (ha : a < nA) : q_sn d' a ↔ q_sn d a := by
  obtain ⟨A0, A1, A2, A3⟩ := hR.1 a ha
  obtain ⟨R4, R5, -, -, -, R0, R1, R2, R3⟩ := hR.2.2
  unfold q_sn
  rw [(T.2.2.1 a ha).1, (T.2.2.1 a ha).2, tr_A T (by omega) (Or.inl rfl), tr_A T (by omega) (Or.inr rfl), T.1, T.2.1, show d' 2 = d 2 from T.2.2.2 2 (by omega), show d' 3 = d 3 from T.2.2.2 3 (by omega)]
  exact mt_sh (iR_mono A0 (by omega) (by omega)) (iR_mono A1 (by omega) (by omega)) (iR_mono A2 (by omega) (by omega)) (iR_mono A3 (by omega) (by omega)) (iR_mono R0 (by omega) (by omega)) (iR_mono R1 (by omega) (by omega)) (iR_mono R2 (by omega) (by omega)) (iR_mono R3 (by omega) (by omega)) hdx hdy
theorem tr_oB {d d' on : aF} {nA nH nO : Nat} {dx dy : Int32} (hw : wD d nA nH nO) (hR : wR d nA nH) (T : tr d d' nA dx dy) (hdx : iR dx (-2000) 2000) (hdy : iR dy (-2000) 2000) {x y w t : Int32} (hx : iR x (-8000) 8000) (hy : iR y (-8000) 8000) (hw' : iR w 1 200) (ht : iR t 1 200) : oB d' on nA nH (x + dx) (y + dy) w t ↔ oB d on nA nH x y w t := by
  have bx := iR_mono (lo' := -10000) (hi' := 10000) hx (by omega) (by omega)
  have byy := iR_mono (lo' := -10000) (hi' := 10000) hy (by omega) (by omega)
  have bw := iR_mono (lo' := 0) (hi' := 1000) hw' (by omega) (by omega)
  have bt := iR_mono (lo' := 0) (hi' := 1000) ht (by omega) (by omega)
  have k1 : oA d' (x + dx) (y + dy) w t nA ↔ oA d x y w t nA := by
    unfold oA
    rw [show d' 8 = d 8 from T.2.2.2 8 (by omega)]
    refine and_congr Iff.rfl (exists_congr fun a => and_congr_right fun ha => ?_)
    obtain ⟨A0, A1, A2, A3⟩ := hR.1 a ha
    have la : a < 10 := Nat.lt_of_lt_of_le ha hw.1
    rw [(T.2.2.1 a ha).1, (T.2.2.1 a ha).2, tr_A T la (Or.inl rfl), tr_A T la (Or.inr rfl)]
    exact mt_sh bx byy bw bt (iR_mono A0 (by omega) (by omega)) (iR_mono A1 (by omega) (by omega)) (iR_mono A2 (by omega) (by omega)) (iR_mono A3 (by omega) (by omega)) hdx hdy
  have k2 : oH d' on (x + dx) (y + dy) w t nH ↔ oH d on x y w t nH := by
    unfold oH
    refine exists_congr fun o => and_congr_right fun ho => and_congr Iff.rfl ?_
    have lo : o < 12 := Nat.lt_of_lt_of_le ho hw.2.1
    obtain ⟨ex, ey, -⟩ := tr_p hw hR T hdx hdy ho (on o)
    obtain ⟨-, -, -, -, rx, ry⟩ := p_R hw hR ho (on o)
    obtain ⟨H1, H2, -⟩ := hR.2.1 o ho
    rw [ex, ey, tr_H T lo (by omega), tr_H T lo (by omega)]
    exact mt_sh bx byy bw bt (iR_mono rx (by omega) (by omega)) (iR_mono ry (by omega) (by omega)) (iR_mono H1 (by omega) (by omega)) (iR_mono H2 (by omega) (by omega)) hdx hdy
  unfold oB
  rw [k1, k2]
theorem tr_try {d d' on : aF} {nA nH nO : Nat} {dx dy : Int32} (hw : wD d nA nH nO) (hR : wR d nA nH) (T : tr d d' nA dx dy) (hdx : iR dx (-2000) 2000) (hdy : iR dy (-2000) 2000) {h : Nat} (hh : h < nH) : ∀ (L : List Int32) (r : Int32), p_try d' on nA nH h L r = p_try d on nA nH h L r
  | [], _ => rfl
  | s :: L, r => by
    have lh : h < 12 := Nat.lt_of_lt_of_le hh hw.2.1
    obtain ⟨ex, ey, ei⟩ := tr_p hw hR T hdx hdy hh s
    obtain ⟨-, -, -, -, rx, ry⟩ := p_R hw hR hh s
    obtain ⟨H1, H2, -⟩ := hR.2.1 h hh
    unfold p_try
    rw [tr_try hw hR T hdx hdy hh L 4, tr_try hw hR T hdx hdy hh L r, ex, ey, tr_H T lh (by omega), tr_H T lh (by omega), propext ei, propext (tr_oB (on := on) hw hR T hdx hdy rx ry H1 H2)]
theorem tr_tryL {d d' : aF} {nA : Nat} {dx dy : Int32} (T : tr d d' nA dx dy) {h : Nat} (hh : h < 12) (hr : d' (160 + h) = d (160 + h)) : tryL d' h = tryL d h := by
  unfold tryL
  rw [hr, tr_H T hh (by omega), tr_H T hh (by omega), show d' 7 = d 7 from T.2.2.2 7 (by omega)]
theorem tr_tR {d d' on : aF} {nA nH nO : Nat} {dx dy : Int32} (hw : wD d nA nH nO) (hR : wR d nA nH) (T : tr d d' nA dx dy) (hdx : iR dx (-2000) 2000) (hdy : iR dy (-2000) 2000) {h : Nat} (hh : h < nH) (hr : d' (160 + h) = d (160 + h)) (shn : Int32) : tR d' on nA nH shn h = tR d on nA nH shn h := by
  obtain ⟨a, ha, e⟩ := hw.2.2.2.2.2.2.1 h hh
  have la : a < 10 := Nat.lt_of_lt_of_le ha hw.1
  have lh : h < 12 := Nat.lt_of_lt_of_le hh hw.2.1
  unfold tR
  rw [p_an_of e la, p_an_of ((tr_H T lh (by omega)).trans e) la, propext (tr_sn hR hw.1 T hdx hdy ha), tr_tryL T lh hr, tr_try hw hR T hdx hdy hh, show d' 6 = d 6 from T.2.2.2 6 (by omega)]
theorem insR_congr {d d' : aF} {h : Nat} (hp : pr d' h = pr d h) : ∀ (R : List Nat), (∀ x ∈ R, pr d' x = pr d x) → insR d' h R = insR d h R
  | [], _ => rfl
  | x :: R, hR => by
    unfold insR
    rw [hp, hR x List.mem_cons_self, insR_congr hp R (fun y hy => hR y (List.mem_cons_of_mem _ hy))]
theorem tr_ordL {d d' : aF} {nA nH nO : Nat} {dx dy : Int32} (hw : wD d nA nH nO) (T : tr d d' nA dx dy) : ordL d' nO = ordL d nO := by
  have key : ∀ k, k ≤ nO → ordR d' k = ordR d k := by
    intro k
    induction k with
    | zero => intro _; rfl
    | succ k ih =>
      intro hk
      have lo : nO ≤ 12 := hw.2.2.1
      have e : op d' k = op d k := by unfold op; rw [T.2.2.2 (148 + k) (by omega)]
      have lt : ∀ j, j < nO → op d j < 12 := fun j hj => Nat.lt_of_lt_of_le (op_of hw hj).1 hw.2.1
      show insR d' (op d' k) (ordR d' k) = insR d (op d k) (ordR d k)
      rw [e, ih (by omega)]
      refine insR_congr (tr_H T (lt k (by omega)) (by omega)) _ (fun x hx => ?_)
      obtain ⟨j, hj, rfl⟩ := (ordR_mem d k x).mp hx
      exact tr_H T (lt j (by omega)) (by omega)
  unfold ordL
  rw [key nO (Nat.le_refl _)]
theorem p_run_nil (d : aF) (nA nH : Nat) (S : aF × aF × Int32) : p_run d nA nH S [] = S := rfl
theorem p_run_cons (d : aF) (nA nH : Nat) (S : aF × aF × Int32) (x : Nat) (L : List Nat) : p_run d nA nH S (x :: L) = p_run d nA nH (p_step d nA nH S x) L := rfl
/-- moved alike, the same is shown -/
theorem tr_all {d d' : aF} {nA nH nO : Nat} {dx dy : Int32} (hw : wD d nA nH nO) (hi : wI d nO) (hR : wR d nA nH) (T : tr d d' nA dx dy) (hdx : iR dx (-2000) 2000) (hdy : iR dy (-2000) 2000) (hr : ∀ h, h < nH → d' (160 + h) = d (160 + h)) : p_all d' nA nH nO = p_all d nA nH nO := by
  have key : ∀ (L : List Nat) (W on : aF) (shn : Int32), L.Nodup → (∀ x ∈ L, x < nH ∧ on x = -1) → p_run d' nA nH (W, on, shn) L = p_run d nA nH (W, on, shn) L := by
    intro L
    induction L with
    | nil => intro W on shn _ _; rw [p_run_nil, p_run_nil]
    | cons x L ih =>
      intro W on shn hn hL
      obtain ⟨n1, n2⟩ := List.nodup_cons.mp hn
      obtain ⟨x1, x2⟩ := hL x List.mem_cons_self
      rw [p_run_cons, p_run_cons, p_step_tR x2, p_step_tR x2, tr_tR hw hR T hdx hdy x1 (hr x x1) shn]
      refine ih _ _ _ n2 (fun y hy => ?_)
      have hne : y ≠ x := fun z => by rw [z] at hy; exact n1 hy
      rw [upd_ne hne]
      exact hL y (List.mem_cons_of_mem _ hy)
  unfold p_all
  rw [tr_ordL hw T]
  exact key _ _ _ _ (ordL_nodup hi) (fun x hx => ⟨ordL_mem hw hx, rfl⟩)
