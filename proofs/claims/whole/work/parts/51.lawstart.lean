/-! THE LAW from its entry -/
theorem wi_X0 : m_in (.instantiable RX0 3) := ⟨List.mem_of_getElem? (i := 107) (by decide +kernel), rfl⟩
theorem wi_X1 : m_in (.instantiable RX1 8) := ⟨List.mem_of_getElem? (i := 215) (by decide +kernel), rfl⟩
theorem wi_X2 : m_in (.instantiable RX2 6) := ⟨List.mem_of_getElem? (i := 153) (by decide +kernel), rfl⟩
theorem wi_X3 : m_in (.instantiable RX3 1) := ⟨List.mem_of_getElem? (i := 85) (by decide +kernel), rfl⟩
theorem wi_X4 : m_in (.instantiable RX4 8) := ⟨List.mem_of_getElem? (i := 126) (by decide +kernel), rfl⟩
theorem wi_X5 : m_in (.instantiable RX5 1) := ⟨List.mem_of_getElem? (i := 79) (by decide +kernel), rfl⟩
theorem wi_X6 : m_in (.instantiable RX6 2) := ⟨List.mem_of_getElem? (i := 134) (by decide +kernel), rfl⟩
theorem wi_X7 : m_in (.instantiable RX7 6) := ⟨List.mem_of_getElem? (i := 71) (by decide +kernel), rfl⟩
theorem wi_X8 : m_in (.instantiable RX8 21) := ⟨List.mem_of_getElem? (i := 655) (by decide +kernel), rfl⟩
theorem wl_7 : m_in (.classLink RL 7 RX7) := ⟨List.mem_of_getElem? (i := 70) (by decide +kernel), rfl⟩
theorem wl_8 : m_in (.classLink RL 10 RX8) := ⟨List.mem_of_getElem? (i := 654) (by decide +kernel), rfl⟩
theorem wn_7 : m_in (.initialized RX7) := ⟨List.mem_of_getElem? (i := 60) (by decide +kernel), rfl⟩
theorem wn_8 : m_in (.initialized RX8) := ⟨List.mem_of_getElem? (i := 69) (by decide +kernel), rfl⟩
theorem n_L_9 : m_lk RL 9 yX7_init := Or.inl ⟨List.mem_of_getElem? (i := 72) (by decide +kernel), rfl⟩
theorem n_L_12 : m_lk RL 12 yX8_init := Or.inl ⟨List.mem_of_getElem? (i := 656) (by decide +kernel), rfl⟩
theorem z_X7 : ∀ j, j < 6 → defaultValue (tyX7 j) = vp_V [.null, .null, .null, .null, .null, .null] j := fun j hj => by
  rcases (show j = 0 ∨ j = 1 ∨ j = 2 ∨ j = 3 ∨ j = 4 ∨ j = 5 by omega) with rfl | rfl | rfl | rfl | rfl | rfl <;> rfl
theorem l_arr {args : Array Value} {s : State} {ty : FieldType} (h : (Cond.arrayClass ty).before args s = true) : ∃ cA : ClassId, ArrOfT s cA ty ∧ s.vm.findClass ("[" ++ ty.toString) = some cA := by
  obtain ⟨cA, kA, comp, h1, h2, h3⟩ := Cond.arrayClass_spec h
  exact ⟨cA, fun n z => ⟨fun k h => (by cases h), kA, h2, comp, h3⟩, h1⟩
theorem l_known {args : Array Value} {s : State} (hts : ∀ w ∈ lw_tbl, w.before args s = true) : ∃ D : va_G, ∀ (c : Nat) (q : vw_C), vwCl[c]? = some q → u_Kn s q.1 q.2.1 q.2.2 (D.1 c) (D.2 c) := by
  obtain ⟨k0, s0, hk0⟩ := u_known (C := RX0) (T := TX0) (N := 3) (n := 3) hts (fun w hw => (h_X0 w hw).1) (hts _ wi_X0.1)
  obtain ⟨k1, s1, hk1⟩ := u_known (C := RX1) (T := TX1) (N := 8) (n := 8) hts (fun w hw => (h_X1 w hw).1) (hts _ wi_X1.1)
  obtain ⟨k2, s2, hk2⟩ := u_known (C := RX2) (T := TX2) (N := 6) (n := 6) hts (fun w hw => (h_X2 w hw).1) (hts _ wi_X2.1)
  obtain ⟨k3, s3, hk3⟩ := u_known (C := RX3) (T := TX3) (N := 1) (n := 1) hts (fun w hw => (h_X3 w hw).1) (hts _ wi_X3.1)
  obtain ⟨k4, s4, hk4⟩ := u_known (C := RX4) (T := TX4) (N := 8) (n := 8) hts (fun w hw => (h_X4 w hw).1) (hts _ wi_X4.1)
  obtain ⟨k5, s5, hk5⟩ := u_known (C := RX5) (T := TX5) (N := 1) (n := 1) hts (fun w hw => (h_X5 w hw).1) (hts _ wi_X5.1)
  obtain ⟨k6, s6, hk6⟩ := u_known (C := RX6) (T := TX6) (N := 2) (n := 2) hts (fun w hw => (h_X6 w hw).1) (hts _ wi_X6.1)
  obtain ⟨k7, s7, hk7⟩ := u_known (C := RX7) (T := TX7) (N := 6) (n := 6) hts (fun w hw => (h_X7 w hw).1) (hts _ wi_X7.1)
  obtain ⟨k8, s8, hk8⟩ := u_known (C := RX8) (T := TX8) (N := 21) (n := 21) hts (fun w hw => (h_X8 w hw).1) (hts _ wi_X8.1)
  have h : ∀ c : Nat, ∃ (k : ClassId) (i : Nat → Nat), ∀ q : vw_C, vwCl[c]? = some q → u_Kn s q.1 q.2.1 q.2.2 k i := by
    intro c
    match c with
    | 0 => exact ⟨k0, s0, fun q hq => by cases hq; exact hk0⟩
    | 1 => exact ⟨k1, s1, fun q hq => by cases hq; exact hk1⟩
    | 2 => exact ⟨k2, s2, fun q hq => by cases hq; exact hk2⟩
    | 3 => exact ⟨k3, s3, fun q hq => by cases hq; exact hk3⟩
    | 4 => exact ⟨k4, s4, fun q hq => by cases hq; exact hk4⟩
    | 5 => exact ⟨k5, s5, fun q hq => by cases hq; exact hk5⟩
    | 6 => exact ⟨k6, s6, fun q hq => by cases hq; exact hk6⟩
    | 7 => exact ⟨k7, s7, fun q hq => by cases hq; exact hk7⟩
    | 8 => exact ⟨k8, s8, fun q hq => by cases hq; exact hk8⟩
    | n + 9 => exact ⟨k0, s0, fun q hq => by simp at hq⟩
  exact ⟨(fun c => Classical.choose (h c), fun c => Classical.choose (Classical.choose_spec (h c))), fun c q hq => Classical.choose_spec (Classical.choose_spec (h c)) q hq⟩
theorem m_w_inj {A : Nat → Prop} {g : Nat → ClassId} {ad : Nat → Nat} {h : List mC} (hD : va_D A (m_w g ad h)) : (∀ i j, i < h.length → j < h.length → ad i = ad j → i = j) ∧ ∀ i, i < h.length → A (ad i) :=
  ⟨fun i j hi hj he => hD.1 i j _ _ (m_w_at (List.getElem?_eq_getElem hi)) (m_w_at (List.getElem?_eq_getElem hj)) he, fun i hi => hD.2 i _ (m_w_at (List.getElem?_eq_getElem hi))⟩
theorem m_w_1 {g : Nat → ClassId} {ad : Nat → Nat} {c : mC} : m_w g ad [c] = [(ad 0, m_e g ad c)] := m_w_push (h := [])
abbrev hC0 : List mC := cH zB6 (zA, 0, 0) (zA, zA, zA, zA, zA, 0) (zA, 0) (0, 0, 0, 0, 0, 0) (zA, 0, 0, 0, 0, 0, 0, 0) (zA, 0) (0, 0, 0, 0, 0, 0)
abbrev hM0 : List mC := mH zD6 zA 0 zA 0 0 0 0 0 0 0 0 0 0 0 zA zA zA 0 zA 0
set_option maxHeartbeats 1000000 in
theorem l_s15 {p : Program} {e : Env} {s : State} {m : MethodId} {below : List Frame} {meth : Method} {c : Code} (l : Launch) {b L : Nat} {xs : Nat → Int32} (hL : L ≤ 3072) (C0 : lw_At p s m meth c b L xs) {D : va_G} {g : Nat → ClassId} {ad1 ad2 : Nat → Nat} (X : lX p s m meth c b L xs D g ad1 ad2) {u v : Nat} (hu : u ≤ 37) (hv : v ≤ 2366) {H3 : Heap} {locs3 : List Loc} {la : Array Slot} (hl : lv_has la 4 [(1, .ref (ad1 0)), (0, .ref b)]) (hPa3 : va_P D vwCl (m_w g ad1 hC0) H3) (hP3 : va_P D vwCl (m_w g ad2 hM0) H3) (hS3 : va_S (fun q : Nat => s.heap.size ≤ q) s.heap H3 locs3) : W p l e room_1 s m #[Value.ref b] below meth c H3 locs3 u v (lw_Z below #[Value.ref b] s) (F0 m 15 la [.ref (ad2 0)]) := by
  obtain ⟨hx, hb, hr, hml, hown, hts, hX, hbl, hlocks, hgv⟩ := id C0
  refine lv_astore_n (lv' := [(2, .ref (ad2 0)), (1, .ref (ad1 0)), (0, .ref b)]) hx hb dL_law_15 rfl hl (by decide) rfl (fun la hl => ?_)
  refine lv_iconst (v := nI 0) hx hb dL_law_16 rfl ?_
  refine lv_istore_n (lv' := [(3, .int (nI 0)), (2, .ref (ad2 0)), (1, .ref (ad1 0)), (0, .ref b)]) hx hb dL_law_17 rfl hl (by decide) rfl (fun la hl => ?_)
  refine W.widen (k := 37) (n := 2366) hu hv ?_
  exact l_loop X (L + 1) 0 hC0 hM0 (Nat.zero_le _) (by omega) (INV_start zB_ok zD_ok) H3 locs3 la (lv_sub hl [3, 2, 1, 0] rfl) hPa3 hP3 hS3
set_option maxHeartbeats 1000000 in
theorem l_s8 {p : Program} {e : Env} {s : State} {m : MethodId} {below : List Frame} {meth : Method} {c : Code} (l : Launch) {b L : Nat} {xs : Nat → Int32} (hL : L ≤ 3072) (C0 : lw_At p s m meth c b L xs) {D : va_G} {g : Nat → ClassId} (K : va_K D vwCl (m_tys g) s) {ad1 : Nat → Nat} {u v : Nat} (hu : u ≤ 29) (hv : v ≤ 1212) {H1 : Heap} {locs1 : List Loc} {la : Array Slot} (hl : lv_has la 4 [(1, .ref (ad1 0)), (0, .ref b)]) (hP1 : va_P D vwCl (m_w g ad1 hC0) H1) (hDA : va_D (fun q : Nat => s.heap.size ≤ q) (m_w g ad1 hC0)) (hS1 : va_S (fun q : Nat => s.heap.size ≤ q) s.heap H1 locs1) : W p l e room_1 s m #[Value.ref b] below meth c H1 locs1 u v (lw_Z below #[Value.ref b] s) (F0 m 8 la []) := by
  obtain ⟨hx, hb, hr, hml, hown, hts, hX, hbl, hlocks, hgv⟩ := id C0
  have hA : ∀ q : Nat, s.heap.size ≤ q → (fun q : Nat => s.heap.size ≤ q) q := fun _ h => h
  refine W.widen (k := 29) (n := 1212) hu hv ?_
  refine va_new (ci := 8) (fs := [.null, .null, .int 0, .null, .int 0, .int 0, .int 0, .int 0, .int 0, .int 0, .int 0, .int 0, .int 0, .int 0, .int 0, .null, .null, .null, .int 0, .null, .int 0]) (C := RX8) (T := TX8) (N := 21) hx hb hts (fun w q => (h_X8 w q).1) tyX8 tyX8_ok hown (hts _ wl_8.1) (hts _ wi_X8.1) (hts _ wn_8.1) K hP1 hDA hS1 hA rfl z_X8 (Nat.le_of_ble_eq_true rfl) (Nat.le_of_ble_eq_true rfl) dL_law_8 (fun q2 H2 hP2 hD2 hS2 => ?_)
  have hlen : (m_w g ad1 hC0).length = 29 := (List.length_mapIdx).trans rfl
  have e8 : m_w g (fun _ => q2) [.inr (8, [.null, .null, .int 0, .null, .int 0, .int 0, .int 0, .int 0, .int 0, .int 0, .int 0, .int 0, .int 0, .int 0, .int 0, .null, .null, .null, .int 0, .null, .int 0])] = [(q2, .inr (8, [.null, .null, .int 0, .null, .int 0, .int 0, .int 0, .int 0, .int 0, .int 0, .int 0, .int 0, .int 0, .int 0, .int 0, .null, .null, .null, .int 0, .null, .int 0]))] := m_w_1
  have hPa : va_P D vwCl (m_w g ad1 hC0) H2 := fun k q hk => hP2 k q (by rw [List.getElem?_append_left (List.getElem?_eq_some_iff.mp hk).1]; exact hk)
  have hPb : va_P D vwCl (m_w g (fun _ => q2) [.inr (8, [.null, .null, .int 0, .null, .int 0, .int 0, .int 0, .int 0, .int 0, .int 0, .int 0, .int 0, .int 0, .int 0, .int 0, .null, .null, .null, .int 0, .null, .int 0])]) H2 := by
    rw [e8]
    exact fun k q hk => hP2 (29 + k) q (by rw [List.getElem?_append_right (by omega), hlen, Nat.add_sub_cancel_left]; exact hk)
  have hDb : va_D (fun q : Nat => s.heap.size ≤ q) (m_w g (fun _ => q2) [.inr (8, [.null, .null, .int 0, .null, .int 0, .int 0, .int 0, .int 0, .int 0, .int 0, .int 0, .int 0, .int 0, .int 0, .int 0, .null, .null, .null, .int 0, .null, .int 0])]) := by
    rw [e8]
    refine ⟨fun i j p q hi hj _ => ?_, fun k q hk => ?_⟩
    · have hi := (List.getElem?_eq_some_iff.mp hi).1
      have hj := (List.getElem?_eq_some_iff.mp hj).1
      simp at hi hj
      omega
    · exact hD2.2 (29 + k) q (by rw [List.getElem?_append_right (by omega), hlen, Nat.add_sub_cancel_left]; exact hk)
  have hne : ∀ i, i < 29 → ad1 i ≠ q2 := by
    intro i hi he
    have a1 : (m_w g ad1 hC0 ++ [(q2, .inr (8, [.null, .null, .int 0, .null, .int 0, .int 0, .int 0, .int 0, .int 0, .int 0, .int 0, .int 0, .int 0, .int 0, .int 0, .null, .null, .null, .int 0, .null, .int 0]))])[i]? = some (ad1 i, m_e g ad1 (hC0[i]'hi)) := by
      rw [List.getElem?_append_left (by omega)]
      exact m_w_at (List.getElem?_eq_getElem hi)
    have a2 : (m_w g ad1 hC0 ++ [(q2, .inr (8, [.null, .null, .int 0, .null, .int 0, .int 0, .int 0, .int 0, .int 0, .int 0, .int 0, .int 0, .int 0, .int 0, .int 0, .null, .null, .null, .int 0, .null, .int 0]))])[29]? = some (q2, .inr (8, [.null, .null, .int 0, .null, .int 0, .int 0, .int 0, .int 0, .int 0, .int 0, .int 0, .int 0, .int 0, .int 0, .int 0, .null, .null, .null, .int 0, .null, .int 0])) := by
      rw [List.getElem?_append_right (by omega), hlen]
      rfl
    have := hD2.1 i 29 _ _ a1 a2 he
    omega
  have hlt : ∀ i, i < 29 → ad1 i < H2.size := fun i hi => (hPa i _ (m_w_at (List.getElem?_eq_getElem hi))).lt
  refine lv_dup hx hb dL_law_11 rfl ?_
  have hF := m_fr hDb hS2 hA
  refine l_cI (M := k_L) (M2 := k_X8_init) (A := fun q : Nat => s.heap.size ≤ q) (As := []) (a := 0) (ad := fun _ => q2) (rest := [.ref q2]) dL_law_12 e_X8_init n_L_12 ⟨(Nat.le_of_ble_eq_true rfl), (Nat.le_of_ble_eq_true rfl)⟩ rfl (Nat.le_of_ble_eq_true rfl) C_start8 (lw_cx C0) K hl.1 hPb (hDb.weaken (fun _ _ _ _ => trivial)) hF hS2.2.2 ⟨(Nat.le_of_ble_eq_true rfl), (Nat.le_of_ble_eq_true rfl)⟩ (fun ad2 H3 locs3 ha2 hP3 hD3 hsz hfr hlo => ?_)
  have hS3 : va_S (fun q : Nat => s.heap.size ≤ q) s.heap H3 locs3 := ⟨Nat.le_trans hS2.1 hsz, fun q q1 q2 => (hfr q (Nat.lt_of_lt_of_le q1 hS2.1) (fun z => q2 (hF q z))).trans (hS2.2.1 q q1 q2), hlo⟩
  have hPa3 : va_P D vwCl (m_w g ad1 hC0) H3 := l_other hPa (fun i j hi hj z => hne j hj z.symm) hfr
  have i1 := m_w_inj hDA
  have i2 := m_w_inj (hD3.weaken (fun _ q _ z => hF q.1 z))
  have hdj : ∀ i j, i < 29 → j < 8 → ad1 i ≠ ad2 j := by
    intro i j hi hj he
    rcases (m_w_inj hD3).2 j hj with ⟨k, e, hk⟩ | hk
    · rw [e8] at hk
      have hk0 := (List.getElem?_eq_some_iff.mp hk).1
      rw [show k = 0 by simp at hk0; omega] at hk
      exact hne i hi (he.trans (congrArg Prod.fst (Option.some.inj hk)).symm)
    · have := hlt i hi
      omega
  have e02 : ad2 0 = q2 := ha2 0 (by decide)
  rw [← e02]
  exact l_s15 l hL C0 ⟨C0, hL, K, i1, i2, hdj⟩ (Nat.le_of_ble_eq_true rfl) (Nat.le_of_ble_eq_true rfl) hl hPa3 hP3 hS3
set_option maxHeartbeats 1000000 in
theorem whole_start {p : Program} {e : Env} {s : State} {m : MethodId} {below : List Frame} {meth : Method} {c : Code} (l : Launch) (hflags : l.flags = flags0) {b L : Nat} {xs : Nat → Int32} (hL : L ≤ 3072) (C0 : lw_At p s m meth c b L xs) : W p l e room_1 s m #[Value.ref b] below meth c s.heap [] 0 0 (lw_Z below #[Value.ref b] s) (entryFrame m ([Value.ref b] : List Value).toArray 4) := by
  obtain ⟨hx, hb, hr, hml, hown, hts, hX, hbl, hlocks, hgv⟩ := id C0
  have hA : ∀ q : Nat, s.heap.size ≤ q → (fun q : Nat => s.heap.size ≤ q) q := fun _ h => h
  obtain ⟨D, hKc⟩ := l_known hts
  obtain ⟨cI, aI, fI⟩ := l_arr (hts _ w_int.1)
  obtain ⟨cC, aC, fC⟩ := l_arr (hts _ w_char.1)
  obtain ⟨g, g0, g1⟩ : ∃ g : Nat → ClassId, g 0 = cI ∧ g 1 = cC := ⟨fun i => if i = 0 then cI else cC, rfl, rfl⟩
  subst g0
  subst g1
  have K : va_K D vwCl (m_tys g) s := by
    refine ⟨hKc, fun k q hq => ?_⟩
    match k, hq with
    | 0, hq => cases hq; exact ⟨aI, fI⟩
    | 1, hq => cases hq; exact ⟨aC, fC⟩
    | k + 2, hq => simp at hq
  have hS : va_S (fun q : Nat => s.heap.size ≤ q) s.heap s.heap [] := va_S.rf
  have hP : va_P D vwCl [] s.heap := fun k q h => by simp at h
  have hD : va_D (fun q : Nat => s.heap.size ≤ q) [] := ⟨fun i j p q h => by simp at h, fun k q h => by simp at h⟩
  have hl := lv_entry ([.ref b]) (n := 4) (Nat.le_of_ble_eq_true rfl)
  rw [lg_entry_eq]
  generalize (lg_sl ([.ref b]) ++ List.replicate (4 - (lg_sl ([.ref b])).length) Slot.unset).toArray = la at hl ⊢
  have hl : lv_has la 4 [(0, .ref b)] := hl
  refine va_new (ci := 7) (fs := [.null, .null, .null, .null, .null, .null]) (C := RX7) (T := TX7) (N := 6) hx hb hts (fun w q => (h_X7 w q).1) tyX7 tyX7_ok hown (hts _ wl_7.1) (hts _ wi_X7.1) (hts _ wn_7.1) K hP hD hS hA rfl z_X7 (Nat.le_of_ble_eq_true rfl) (Nat.le_of_ble_eq_true rfl) dL_law_0 (fun q1 H hP hD hS => ?_)
  have e7 : m_w g (fun _ => q1) [.inr (7, [.null, .null, .null, .null, .null, .null])] = [(q1, .inr (7, [.null, .null, .null, .null, .null, .null]))] := m_w_1
  have hP : va_P D vwCl (m_w g (fun _ => q1) [.inr (7, [.null, .null, .null, .null, .null, .null])]) H := by rw [e7]; exact hP
  have hD : va_D (fun q : Nat => s.heap.size ≤ q) (m_w g (fun _ => q1) [.inr (7, [.null, .null, .null, .null, .null, .null])]) := by rw [e7]; exact hD
  refine lv_dup hx hb dL_law_3 rfl ?_
  have hF := m_fr hD hS hA
  refine l_cI (M := k_L) (M2 := k_X7_init) (A := fun q : Nat => s.heap.size ≤ q) (As := []) (a := 0) (ad := fun _ => q1) (rest := [.ref q1]) dL_law_4 e_X7_init n_L_9 ⟨(Nat.le_of_ble_eq_true rfl), (Nat.le_of_ble_eq_true rfl)⟩ rfl (Nat.le_of_ble_eq_true rfl) C_start7 (lw_cx C0) K hl.1 hP (hD.weaken (fun _ _ _ _ => trivial)) hF hS.2.2 ⟨(Nat.le_of_ble_eq_true rfl), (Nat.le_of_ble_eq_true rfl)⟩ (fun ad1 H1 locs1 ha hP1 hD1 hsz hfr hlo => ?_)
  have hS1 : va_S (fun q : Nat => s.heap.size ≤ q) s.heap H1 locs1 := ⟨Nat.le_trans hS.1 hsz, fun q q1 q2 => (hfr q (Nat.lt_of_lt_of_le q1 hS.1) (fun z => q2 (hF q z))).trans (hS.2.1 q q1 q2), hlo⟩
  have hDA : va_D (fun q : Nat => s.heap.size ≤ q) (m_w g ad1 hC0) := hD1.weaken (fun _ q _ z => hF q.1 z)
  have e0 : ad1 0 = q1 := ha 0 (by decide)
  rw [← e0]
  refine lv_astore_n (lv' := [(1, .ref (ad1 0)), (0, .ref b)]) hx hb dL_law_7 rfl hl (by decide) rfl (fun la hl => ?_)
  exact l_s8 l hL C0 K (Nat.le_of_ble_eq_true rfl) (Nat.le_of_ble_eq_true rfl) hl hP1 hDA hS1

