/-! THE TWO ROWS: numbers in their ranges; a hint's place is the same in both -/
def iZ (a : Int) : Int32 := Int32.ofInt a
theorem iZ_add (a b : Int) : iZ a + iZ b = iZ (a + b) := (Int32.ofInt_add a b).symm
theorem iZ_sub (a b : Int) : iZ a - iZ b = iZ (a - b) := (Int32.ofInt_sub a b).symm
theorem iZ_toInt {a : Int} (h : -2147483648 ≤ a) (h' : a < 2147483648) : (iZ a).toInt = a := Int32.toInt_ofInt_of_le (by omega) (by omega)
theorem iZ_leI {a b : Int} (h : -2147483648 ≤ a) (h' : a < 2147483648) (k : -2147483648 ≤ b) (k' : b < 2147483648) : iZ a ≤ iZ b ↔ a ≤ b := by
  rw [Int32.le_iff_toInt_le, iZ_toInt h h', iZ_toInt k k']
theorem iZ_ltI {a b : Int} (h : -2147483648 ≤ a) (h' : a < 2147483648) (k : -2147483648 ≤ b) (k' : b < 2147483648) : iZ a < iZ b ↔ a < b := by
  rw [Int32.lt_iff_toInt_lt, iZ_toInt h h', iZ_toInt k k']
def iR (x : Int32) (lo hi : Int) : Prop := lo ≤ x.toInt ∧ x.toInt ≤ hi
theorem iR_ex {x : Int32} {lo hi : Int} (h : iR x lo hi) : ∃ X : Int, x = iZ X ∧ lo ≤ X ∧ X ≤ hi := ⟨x.toInt, (Int32.ofInt_toInt x).symm, h.1, h.2⟩
theorem iR_Z {X lo hi : Int} (h : lo ≤ X) (h' : X ≤ hi) (k : -2147483648 ≤ lo) (k' : hi < 2147483648) : iR (iZ X) lo hi := by
  unfold iR
  rw [iZ_toInt (by omega) (by omega)]
  exact ⟨h, h'⟩
theorem half_all : ∀ j : Nat, j < 401 → v_half (iZ ((j : Int) - 200)) = iZ (((j : Int) - 200) / 2) ∧ v_fd (iZ ((j : Int) - 200)) 2 = iZ (((j : Int) - 200) / 2) := by decide +kernel
theorem half2_all : ∀ j : Nat, j < 401 → iZ (j : Int) / 2 = iZ ((j : Int) / 2) ∧ v_fd (iZ (j : Int)) 2 = iZ ((j : Int) / 2) := by decide +kernel
theorem half_Z {X : Int} (h : -200 ≤ X) (h' : X ≤ 200) : v_half (iZ X) = iZ (X / 2) ∧ v_fd (iZ X) 2 = iZ (X / 2) := by
  have q := half_all (X + 200).toNat (by omega)
  rw [show (((X + 200).toNat : Int) - 200) = X by omega] at q
  exact q
theorem half2_Z {X : Int} (h : 0 ≤ X) (h' : X ≤ 400) : iZ X / 2 = iZ (X / 2) ∧ v_fd (iZ X) 2 = iZ (X / 2) := by
  have q := half2_all X.toNat (by omega)
  rw [show ((X.toNat : Int)) = X by omega] at q
  exact q
theorem v_max_Z {x y : Int} (h : -1000000 ≤ x) (h' : x ≤ 1000000) (k : -1000000 ≤ y) (k' : y ≤ 1000000) : v_max (iZ x) (iZ y) = iZ (max x y) := by
  unfold v_max
  by_cases q : x < y
  · rw [if_pos ((iZ_ltI (by omega) (by omega) (by omega) (by omega)).mpr q), show max x y = y by omega]
  · rw [if_neg (fun z => q ((iZ_ltI (by omega) (by omega) (by omega) (by omega)).mp z)), show max x y = x by omega]
theorem v_min_Z {x y : Int} (h : -1000000 ≤ x) (h' : x ≤ 1000000) (k : -1000000 ≤ y) (k' : y ≤ 1000000) : v_min (iZ x) (iZ y) = iZ (min x y) := by
  unfold v_min
  by_cases q : y < x
  · rw [if_pos ((iZ_ltI (by omega) (by omega) (by omega) (by omega)).mpr q), show min x y = y by omega]
  · rw [if_neg (fun z => q ((iZ_ltI (by omega) (by omega) (by omega) (by omega)).mp z)), show min x y = x by omega]
theorem v_by_Z {B L F S : Int} (b1 : -10000 ≤ B) (b2 : B ≤ 10000) (l1 : 0 ≤ L) (l2 : L ≤ 10000) (f1 : -10000 ≤ F) (f2 : F ≤ 10000) (s1 : 0 ≤ S) (s2 : S ≤ 10000) : ∃ V : Int, v_by (iZ B) (iZ L) (iZ F) (iZ S) = iZ V ∧ ((F ≤ B ∧ B + L ≤ F + S ∧ V = 0) ∨ (F ≤ B ∧ F + S < B + L ∧ V = F + S - L - B) ∨ (B < F ∧ V = F - B)) := by
  unfold v_by
  simp only [iZ_add, iZ_sub]
  by_cases q : F ≤ B
  · rw [if_pos ((iZ_leI (by omega) (by omega) (by omega) (by omega)).mpr q)]
    by_cases q2 : B + L ≤ F + S
    · rw [if_pos ((iZ_leI (by omega) (by omega) (by omega) (by omega)).mpr q2)]
      exact ⟨0, rfl, Or.inl ⟨q, q2, rfl⟩⟩
    · rw [if_neg (fun z => q2 ((iZ_leI (by omega) (by omega) (by omega) (by omega)).mp z))]
      exact ⟨_, rfl, Or.inr (Or.inl ⟨q, by omega, rfl⟩)⟩
  · rw [if_neg (fun z => q ((iZ_leI (by omega) (by omega) (by omega) (by omega)).mp z))]
    exact ⟨_, rfl, Or.inr (Or.inr ⟨by omega, rfl⟩)⟩
theorem gd_Z {A L M : Int} (a1 : -10000 ≤ A) (a2 : A ≤ 10000) (l1 : 0 ≤ L) (l2 : L ≤ 10000) (m1 : 0 ≤ M) (m2 : M ≤ 10000) : q_gd (iZ A) (iZ L) (iZ M) ↔ (M ≤ A ∧ A ≤ L - 1 - M) := by
  unfold q_gd
  rw [show (1 : Int32) = iZ 1 from rfl, iZ_sub, iZ_sub, iZ_ltI (by omega) (by omega) (by omega) (by omega), iZ_ltI (by omega) (by omega) (by omega) (by omega)]
  omega
theorem shi_ms {fr sz b l a m : Int32} (hf : iR fr (-3000) 3000) (hs : iR sz 0 1000) (hb : iR b (-3000) 3000) (hl : iR l 0 1000) (ha : iR a (-5000) 5000) (hm : iR m 0 100) : v_shi fr sz b l a m = v_ms m b l a fr sz := by
  obtain ⟨F, rfl, f1, f2⟩ := iR_ex hf
  obtain ⟨S, rfl, s1, s2⟩ := iR_ex hs
  obtain ⟨B, rfl, b1, b2⟩ := iR_ex hb
  obtain ⟨L, rfl, l1, l2⟩ := iR_ex hl
  obtain ⟨A, rfl, a1, a2⟩ := iR_ex ha
  obtain ⟨M, rfl, m1, m2⟩ := iR_ex hm
  unfold v_shi v_ms
  by_cases q0 : L ≤ S
  · have q0' : iZ L ≤ iZ S := (iZ_leI (by omega) (by omega) (by omega) (by omega)).mpr q0
    rw [if_neg (fun z => z q0'), if_pos q0']
    obtain ⟨V, hV, hV2⟩ := v_by_Z (B := B) (L := L) (F := F) (S := S) (by omega) (by omega) (by omega) (by omega) (by omega) (by omega) (by omega) (by omega)
    rw [hV, show (0 : Int32) = iZ 0 from rfl, show (1 : Int32) = iZ 1 from rfl]
    simp only [iZ_add, iZ_sub]
    rw [v_max_Z (by omega) (by omega) (by omega) (by omega), v_max_Z (by omega) (by omega) (by omega) (by omega), v_min_Z (by omega) (by omega) (by omega) (by omega), v_min_Z (by omega) (by omega) (by omega) (by omega)]
    simp only [iZ_sub]
    by_cases q : q_gd (iZ A) (iZ L) (iZ M)
    · have q' := (gd_Z (by omega) (by omega) (by omega) (by omega) (by omega) (by omega)).mp q
      rw [iif_t q, iif_t q]
      by_cases e1 : V ≤ A - M
      · rw [if_pos ((iZ_leI (by omega) (by omega) (by omega) (by omega)).mpr e1)]
        by_cases e2 : A - (L - 1 - M) ≤ V
        · rw [if_pos ((iZ_leI (by omega) (by omega) (by omega) (by omega)).mpr e2)]
          congr 1; omega
        · rw [if_neg (fun z => e2 ((iZ_leI (by omega) (by omega) (by omega) (by omega)).mp z))]
          congr 1; omega
      · rw [if_neg (fun z => e1 ((iZ_leI (by omega) (by omega) (by omega) (by omega)).mp z))]
        congr 1; omega
    · rw [iif_f q, iif_f q]
      congr 1; omega
  · have q0' : ¬ iZ L ≤ iZ S := fun z => q0 ((iZ_leI (by omega) (by omega) (by omega) (by omega)).mp z)
    rw [if_pos q0', if_neg q0']
/-- the class's row and the reference's, but for the view's size and the openings -/
def rK (C d : aF) : Prop := C 0 = d 0 ∧ C 1 = d 1 ∧ C 4 = d 9 ∧ C 5 = d 50 ∧ (∀ k, k < 5 → C (7 + k) = d (4 + k)) ∧ (∀ a k, a < 10 → k < 4 → C (12 + 4 * a + k) = dA d a k) ∧ (∀ h k, h < 12 → k < 8 → C (52 + 10 * h + k) = dH d h k) ∧ (∀ h, h < 12 → C (52 + 10 * h + 9) = d (160 + h))
theorem gG_k (C : aF) {k : Nat} (hk : k < 172) : gG C (nI k) = C k := rg_in C hk (by omega)
theorem gS_k (C : aF) {k : Nat} (hk : k < 5) : gS C (nI k) = C (7 + k) := by
  show rg 172 C (nI 7 + nI k) = _
  rw [nI_add, rg_in C (by omega) (by omega)]
theorem gA_k (C : aF) {a k : Nat} (ha : a < 10) (hk : k < 4) : gA C (nI a) (nI k) = C (12 + 4 * a + k) := by
  show rg 172 C (nI 12 + nI a * nI 4 + nI k) = _
  rw [pk_mul, nI_add, nI_add, rg_in C (by omega) (by omega), show 12 + a * 4 + k = 12 + 4 * a + k by omega]
theorem gH_k (C : aF) {h k : Nat} (hh : h < 12) (hk : k < 10) : gH C (nI h) (nI k) = C (52 + 10 * h + k) := by
  show rg 172 C (nI 52 + nI h * nI 10 + nI k) = _
  rw [pk_mul, nI_add, nI_add, rg_in C (by omega) (by omega), show 52 + h * 10 + k = 52 + 10 * h + k by omega]
theorem gA_d {C d : aF} (K : rK C d) {a : Nat} (ha : a < 10) (k : Nat) (hk : k < 4) : gA C (nI a) (nI k) = dA d a k := (gA_k C ha hk).trans (K.2.2.2.2.2.1 a k ha hk)
theorem gH_d {C d : aF} (K : rK C d) {h : Nat} (hh : h < 12) (k : Nat) (hk : k < 8) : gH C (nI h) (nI k) = dH d h k := (gH_k C hh (by omega)).trans (K.2.2.2.2.2.2.1 h k hh hk)
theorem gS_d {C d : aF} (K : rK C d) (k : Nat) (hk : k < 5) : gS C (nI k) = d (4 + k) := (gS_k C hk).trans (K.2.2.2.2.1 k hk)
/-- all numbers are in their ranges -/
def wR (d : aF) (nA nH : Nat) : Prop := (∀ a, a < nA → iR (dA d a 0) (-1000) 1000 ∧ iR (dA d a 1) (-1000) 1000 ∧ iR (dA d a 2) 1 200 ∧ iR (dA d a 3) 1 200) ∧ (∀ h, h < nH → iR (dH d h 1) 1 200 ∧ iR (dH d h 2) 1 200 ∧ iR (dH d h 4) 0 2 ∧ iR (dH d h 5) 0 2 ∧ iR (dH d h 6) 0 1 ∧ iR (dH d h 7) 0 9) ∧ iR (d 4) 0 30 ∧ iR (d 5) 0 20 ∧ iR (d 6) 1 6 ∧ iR (d 7) 0 1 ∧ iR (d 8) 0 1 ∧ iR (d 0) (-2000) 2000 ∧ iR (d 1) (-2000) 2000 ∧ iR (d 2) 20 400 ∧ iR (d 3) 20 400
theorem beg_eq {x w t g : Int32} (hx : iR x (-1000) 1000) (hw : iR w 1 200) (ht : iR t 1 200) : (if g = 0 then x else if g = 1 then x + v_fd (w - t) 2 else x + (w - t)) = (if g = 0 then x else if g = 1 then x + v_half (w - t) else x + w - t) ∧ iR (if g = 0 then x else if g = 1 then x + v_half (w - t) else x + w - t) (-1500) 1500 := by
  obtain ⟨X, rfl, x1, x2⟩ := iR_ex hx
  obtain ⟨W, rfl, w1, w2⟩ := iR_ex hw
  obtain ⟨S, rfl, t1, t2⟩ := iR_ex ht
  simp only [iZ_sub, iZ_add]
  obtain ⟨e1, e2⟩ := half_Z (X := W - S) (by omega) (by omega)
  rw [e1, e2]
  simp only [iZ_add]
  rw [show X + (W - S) = X + W - S by omega]
  refine ⟨rfl, ?_⟩
  by_cases g0 : g = 0
  · rw [if_pos g0]; exact iR_Z (by omega) (by omega) (by omega) (by omega)
  · rw [if_neg g0]
    by_cases g1 : g = 1
    · rw [if_pos g1]; exact iR_Z (by omega) (by omega) (by omega) (by omega)
    · rw [if_neg g1]; exact iR_Z (by omega) (by omega) (by omega) (by omega)
theorem mid_eq {x w b : Int32} (hx : iR x (-1000) 1000) (hw : iR w 1 200) (hb : iR b (-1500) 1500) : x + v_fd w 2 = x + w / 2 ∧ iR (x + w / 2 - b) (-3000) 3000 := by
  obtain ⟨X, rfl, x1, x2⟩ := iR_ex hx
  obtain ⟨W, rfl, w1, w2⟩ := iR_ex hw
  obtain ⟨B, rfl, b1, b2⟩ := iR_ex hb
  obtain ⟨e1, e2⟩ := half2_Z (X := W) (by omega) (by omega)
  rw [e1, e2]
  refine ⟨rfl, ?_⟩
  simp only [iZ_add, iZ_sub]
  exact iR_Z (by omega) (by omega) (by omega) (by omega)
theorem iR_mono {x : Int32} {lo hi lo' hi' : Int} (h : iR x lo hi) (h1 : lo' ≤ lo) (h2 : hi ≤ hi') : iR x lo' hi' := ⟨Int.le_trans h1 h.1, Int.le_trans h.2 h2⟩
theorem m_shift (m b s : Int32) : m - (b + s) = m - b - s := by
  rw [Int32.sub_eq_add_neg, Int32.sub_eq_add_neg, Int32.sub_eq_add_neg, Int32.neg_add, Int32.sub_eq_add_neg, Int32.add_assoc]
theorem f_ofp {C d : aF} (K : rK C d) {nA nH : Nat} (R : wR d nA nH) (lA : nA ≤ 10) (lH : nH ≤ 12) {h a : Nat} (hh : h < nH) (ha : dH d h 0 = nI a) (haA : a < nA) {s : Int32} (hs : sd s) {vw vh : Int32} (hw : d 2 = vw) (hv : d 3 = vh) : f_b0 C (nI h) s = p_b0 d h s ∧ f_mid C (nI h) s - f_b0 C (nI h) s = p_a0 d h s ∧ f_shf C (nI h) s vw vh = p_sh d h s := by
  obtain ⟨r1, r2, r4, r5, r6, r7, r8, r9, r10, r11, r12⟩ := R
  obtain ⟨a0, a1, a2, a3⟩ := r1 a haA
  obtain ⟨t1, t2, t4, t5, t6, t7⟩ := r2 h hh
  have lh : h < 12 := by omega
  have la : a < 10 := by omega
  have g0 : gH C (nI h) 0 = nI a := (gH_d K lh 0 (by decide)).trans ha
  have g1 : gH C (nI h) 1 = dH d h 1 := gH_d K lh 1 (by decide)
  have g2 : gH C (nI h) 2 = dH d h 2 := gH_d K lh 2 (by decide)
  have g4 : gH C (nI h) 4 = dH d h 4 := gH_d K lh 4 (by decide)
  have g6 : gH C (nI h) 6 = dH d h 6 := gH_d K lh 6 (by decide)
  have k0 : gA C (nI a) 0 = dA d a 0 := gA_d K la 0 (by decide)
  have k1 : gA C (nI a) 1 = dA d a 1 := gA_d K la 1 (by decide)
  have k2 : gA C (nI a) 2 = dA d a 2 := gA_d K la 2 (by decide)
  have k3 : gA C (nI a) 3 = dA d a 3 := gA_d K la 3 (by decide)
  have s1 : gS C 1 = d 5 := gS_d K 1 (by decide)
  have v0 : gG C 0 = d 0 := (gG_k C (k := 0) (by decide)).trans K.1
  have v1 : gG C 1 = d 1 := (gG_k C (k := 1) (by decide)).trans K.2.1
  have pa : p_an d h = a := p_an_of ha la
  have X1 := beg_eq (g := dH d h 4) a0 a2 t1
  have Y1 := beg_eq (g := dH d h 4) a1 a3 t2
  have hb : f_b0 C (nI h) s = p_b0 d h s ∧ iR (p_b0 d h s) (-1500) 1500 := by
    unfold f_b0 p_b0 v_beg p_bg p_sz p_ln
    rw [g0, g4, g1, g2, k0, k1, k2, k3, pa]
    rcases hs with rfl | rfl | rfl | rfl <;> simp only [iif_lv0, iif_lv1, iif_lv2, iif_lv3, iif_bf0, iif_bf1, iif_bf2, iif_bf3] <;> first | exact X1 | exact Y1
  have hm : f_mid C (nI h) s - f_b0 C (nI h) s = p_a0 d h s ∧ iR (p_a0 d h s) (-3000) 3000 := by
    rw [hb.1]
    have X2 := mid_eq a0 a2 hb.2
    have Y2 := mid_eq a1 a3 hb.2
    unfold f_mid p_a0 v_mid p_bg p_sz
    rw [g0, k0, k1, k2, k3, pa]
    rcases hs with rfl | rfl | rfl | rfl <;> simp only [iif_lv0, iif_lv1, iif_lv2, iif_lv3, iif_bf0, iif_bf1, iif_bf2, iif_bf3] <;> first | exact ⟨by rw [X2.1], X2.2⟩ | exact ⟨by rw [Y2.1], Y2.2⟩
  refine ⟨hb.1, hm.1, ?_⟩
  unfold f_shf p_sh
  rw [g6, hm.1, hb.1, s1, v0, v1, ← hw, ← hv]
  have el : f_len C (nI h) s = p_ln d h s := by unfold f_len p_ln; rw [g1, g2]
  rw [el]
  by_cases q : dH d h 6 = 1
  · rw [if_pos q, if_pos q]
    have hl : iR (p_ln d h s) 0 1000 := by
      unfold p_ln
      rcases hs with rfl | rfl | rfl | rfl <;> simp only [iif_lv0, iif_lv1, iif_lv2, iif_lv3, iif_bf0, iif_bf1, iif_bf2, iif_bf3] <;> first | exact iR_mono t1 (by omega) (by omega) | exact iR_mono t2 (by omega) (by omega)
    refine shi_ms ?_ ?_ (iR_mono hb.2 (by omega) (by omega)) hl (iR_mono hm.2 (by omega) (by omega)) (iR_mono r5 (by omega) (by omega))
    · rcases hs with rfl | rfl | rfl | rfl <;> simp only [iif_lv0, iif_lv1, iif_lv2, iif_lv3, iif_bf0, iif_bf1, iif_bf2, iif_bf3] <;> first | exact iR_mono r9 (by omega) (by omega) | exact iR_mono r10 (by omega) (by omega)
    · rcases hs with rfl | rfl | rfl | rfl <;> simp only [iif_lv0, iif_lv1, iif_lv2, iif_lv3, iif_bf0, iif_bf1, iif_bf2, iif_bf3] <;> first | exact iR_mono r11 (by omega) (by omega) | exact iR_mono r12 (by omega) (by omega)
  · rw [if_neg q, if_neg q]
theorem f_eq {C d : aF} (K : rK C d) {nA nH : Nat} (R : wR d nA nH) (lA : nA ≤ 10) (lH : nH ≤ 12) {h a : Nat} (hh : h < nH) (ha : dH d h 0 = nI a) (haA : a < nA) {s : Int32} (hs : sd s) {vw vh : Int32} (hw : d 2 = vw) (hv : d 3 = vh) : f_x C (nI h) s vw vh = p_x d h s ∧ f_y C (nI h) s vw vh = p_y d h s ∧ f_shf C (nI h) s vw vh = p_sh d h s ∧ f_arr C (nI h) s vw vh = p_ar d h s ∧ (f_gd C (nI h) s vw vh ↔ p_gd d h s) ∧ (f_in C (nI h) s vw vh ↔ p_in d h s) := by
  obtain ⟨b1, b2, b3⟩ := f_ofp K R lA lH hh ha haA hs hw hv
  have lh : h < 12 := by omega
  have la : a < 10 := by omega
  have g0 : gH C (nI h) 0 = nI a := (gH_d K lh 0 (by decide)).trans ha
  have g1 : gH C (nI h) 1 = dH d h 1 := gH_d K lh 1 (by decide)
  have g2 : gH C (nI h) 2 = dH d h 2 := gH_d K lh 2 (by decide)
  have k0 : gA C (nI a) 0 = dA d a 0 := gA_d K la 0 (by decide)
  have k1 : gA C (nI a) 1 = dA d a 1 := gA_d K la 1 (by decide)
  have k2 : gA C (nI a) 2 = dA d a 2 := gA_d K la 2 (by decide)
  have k3 : gA C (nI a) 3 = dA d a 3 := gA_d K la 3 (by decide)
  have s0 : gS C 0 = d 4 := gS_d K 0 (by decide)
  have s1 : gS C 1 = d 5 := gS_d K 1 (by decide)
  have v0 : gG C 0 = d 0 := (gG_k C (k := 0) (by decide)).trans K.1
  have v1 : gG C 1 = d 1 := (gG_k C (k := 1) (by decide)).trans K.2.1
  have pa : p_an d h = a := p_an_of ha la
  have hbg : f_beg C (nI h) s vw vh = p_al d h s := by unfold f_beg p_al; rw [b1, b3]
  have el : f_len C (nI h) s = p_ln d h s := by unfold f_len p_ln; rw [g1, g2]
  have har : f_arr C (nI h) s vw vh = p_ar d h s := by
    unfold f_arr p_ar f_beg
    rw [m_shift, b2, b3]
  have hx : f_x C (nI h) s vw vh = p_x d h s := by
    unfold f_x p_x f_acr v_edge
    rw [hbg, g0, g1, g2, s0, pa]
    rcases hs with rfl | rfl | rfl | rfl <;> simp only [iif_lv0, iif_lv1, iif_lv2, iif_lv3, iif_bf0, iif_bf1, iif_bf2, iif_bf3, k0, k1, k2, k3]
  have hy : f_y C (nI h) s vw vh = p_y d h s := by
    unfold f_y p_y f_acr v_edge
    rw [hbg, g0, g1, g2, s0, pa]
    rcases hs with rfl | rfl | rfl | rfl <;> simp only [iif_lv0, iif_lv1, iif_lv2, iif_lv3, iif_bf0, iif_bf1, iif_bf2, iif_bf3, k0, k1, k2, k3]
  refine ⟨hx, hy, b3, har, ?_, ?_⟩
  · unfold f_gd p_gd; rw [har, el, s1]
  · unfold f_in p_in; rw [hx, hy, g1, g2, v0, v1, hw, hv]
