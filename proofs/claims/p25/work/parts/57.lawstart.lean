/-! THE LAW from its entry -/
theorem wi_X0 : m_in (.instantiable RX0 3) := ⟨List.mem_of_getElem? (i := 67) (by decide +kernel), rfl⟩
theorem wi_X1 : m_in (.instantiable RX1 8) := ⟨List.mem_of_getElem? (i := 175) (by decide +kernel), rfl⟩
theorem wi_X2 : m_in (.instantiable RX2 6) := ⟨List.mem_of_getElem? (i := 113) (by decide +kernel), rfl⟩
theorem wi_X3 : m_in (.instantiable RX3 1) := ⟨List.mem_of_getElem? (i := 45) (by decide +kernel), rfl⟩
theorem wi_X4 : m_in (.instantiable RX4 8) := ⟨List.mem_of_getElem? (i := 86) (by decide +kernel), rfl⟩
theorem wi_X5 : m_in (.instantiable RX5 1) := ⟨List.mem_of_getElem? (i := 39) (by decide +kernel), rfl⟩
theorem wi_X6 : m_in (.instantiable RX6 2) := ⟨List.mem_of_getElem? (i := 94) (by decide +kernel), rfl⟩
theorem wi_X7 : m_in (.instantiable RX7 6) := ⟨List.mem_of_getElem? (i := 31) (by decide +kernel), rfl⟩
theorem wl_7 : m_in (.classLink RL 10 RX7) := ⟨List.mem_of_getElem? (i := 30) (by decide +kernel), rfl⟩
theorem wn_7 : m_in (.initialized RX7) := ⟨List.mem_of_getElem? (i := 21) (by decide +kernel), rfl⟩
theorem n_L_29 : m_lk RL 29 yX7_init := Or.inl ⟨List.mem_of_getElem? (i := 32) (by decide +kernel), rfl⟩
theorem z_X7 : ∀ j, j < 6 → defaultValue (tyX7 j) = vp_V [.null, .null, .null, .null, .null, .null] j := fun j hj => by
  rcases (show j = 0 ∨ j = 1 ∨ j = 2 ∨ j = 3 ∨ j = 4 ∨ j = 5 by omega) with rfl | rfl | rfl | rfl | rfl | rfl <;> rfl
theorem l_arr {args : Array Value} {s : State} {ty : FieldType} (h : (Cond.arrayClass ty).before args s = true) : ∃ cA : ClassId, ArrOfT s cA ty ∧ s.vm.findClass ("[" ++ ty.toString) = some cA := by
  obtain ⟨cA, kA, comp, h1, h2, h3⟩ := Cond.arrayClass_spec h
  exact ⟨cA, fun n z => ⟨fun k h => (by cases h), kA, h2, comp, h3⟩, h1⟩
theorem l_known {args : Array Value} {s : State} (hts : ∀ w ∈ lw_tbl, w.before args s = true) : ∃ D : va_G, ∀ (c : Nat) (q : vw_C), vwCl[c]? = some q → u_Kn s q.1 q.2.1 q.2.2 (D.1 c) (D.2 c) := by
  obtain ⟨k0, s0, hk0⟩ := u_known (C := RX0) (T := TX0) (N := 3) (n := 3) hts (fun w hw => (h_X0 w hw).1) (hts _ wi_X0.1)
  obtain ⟨k1, s1, hk1⟩ := u_known (C := RX1) (T := TX1) (N := 8) (n := 8) hts (fun w hw => (h_X1 w hw).1) (hts _ wi_X1.1)
  obtain ⟨k2, s2, hk2⟩ := u_known (C := RX2) (T := TX2) (N := 6) (n := 6) hts (fun w hw => (h_X2 w hw).1) (hts _ wi_X2.1)
  obtain ⟨k3, s3, hk3⟩ := u_known (C := RX3) (T := TX3) (N := 1) (n := 1) hts (fun w hw => (h_X3 w hw).1) (hts _ wi_X3.1)
  obtain ⟨k4, s4, hk4⟩ := u_known (C := RX4) (T := TX4) (N := 8) (n := 8) hts (fun w hw => (h_X4 w hw).1) (hts _ wi_X4.1)
  obtain ⟨k5, s5, hk5⟩ := u_known (C := RX5) (T := TX5) (N := 1) (n := 1) hts (fun w hw => (h_X5 w hw).1) (hts _ wi_X5.1)
  obtain ⟨k6, s6, hk6⟩ := u_known (C := RX6) (T := TX6) (N := 2) (n := 2) hts (fun w hw => (h_X6 w hw).1) (hts _ wi_X6.1)
  obtain ⟨k7, s7, hk7⟩ := u_known (C := RX7) (T := TX7) (N := 6) (n := 6) hts (fun w hw => (h_X7 w hw).1) (hts _ wi_X7.1)
  have h : ∀ c : Nat, ∃ (k : ClassId) (i : Nat → Nat), ∀ q : vw_C, vwCl[c]? = some q → u_Kn s q.1 q.2.1 q.2.2 k i := by
    intro c
    match c with
    | 0 => exact ⟨k0, s0, fun q hq => by cases hq; exact hk0⟩
    | 1 => exact ⟨k1, s1, fun q hq => by cases hq; exact hk1⟩
    | 2 => exact ⟨k2, s2, fun q hq => by cases hq; exact hk2⟩
    | 3 => exact ⟨k3, s3, fun q hq => by cases hq; exact hk3⟩
    | 4 => exact ⟨k4, s4, fun q hq => by cases hq; exact hk4⟩
    | 5 => exact ⟨k5, s5, fun q hq => by cases hq; exact hk5⟩
    | 6 => exact ⟨k6, s6, fun q hq => by cases hq; exact hk6⟩
    | 7 => exact ⟨k7, s7, fun q hq => by cases hq; exact hk7⟩
    | n + 8 => exact ⟨k0, s0, fun q hq => by simp at hq⟩
  exact ⟨(fun c => Classical.choose (h c), fun c => Classical.choose (Classical.choose_spec (h c))), fun c q hq => Classical.choose_spec (Classical.choose_spec (h c)) q hq⟩
theorem m_w_inj {A : Nat → Prop} {g : Nat → ClassId} {ad : Nat → Nat} {h : List mC} (hD : va_D A (m_w g ad h)) : (∀ i j, i < h.length → j < h.length → ad i = ad j → i = j) ∧ ∀ i, i < h.length → A (ad i) :=
  ⟨fun i j hi hj he => hD.1 i j _ _ (m_w_at (List.getElem?_eq_getElem hi)) (m_w_at (List.getElem?_eq_getElem hj)) he, fun i hi => hD.2 i _ (m_w_at (List.getElem?_eq_getElem hi))⟩
theorem m_w_1 {g : Nat → ClassId} {ad : Nat → Nat} {c : mC} : m_w g ad [c] = [(ad 0, m_e g ad c)] := m_w_push (h := [])
abbrev hC0 : List mC := cH zB6 (zA, 0, 0) (zA, zA, zA, zA, zA, 0) (zA, 0) (0, 0, 0, 0, 0, 0) (zA, 0, 0, 0, 0, 0, 0, 0) (zA, 0) (0, 0, 0, 0, 0, 0)
theorem ST_start : ST hC0 d0 0 0 0 0 0 :=
  ⟨zB6, zA, zA, zA, zA, zA, zA, zA, 0, 0, (zA, 0), (0, 0, 0, 0, 0, 0), (zA, 0, 0, 0, 0, 0, 0, 0), (zA, 0), (0, 0, 0, 0, 0, 0), rfl, ⟨rX_congr rX_0 zB_ok (fun _ _ => rfl), fun o ho => absurd ho (by omega), rfl, by omega⟩, fun i hi => absurd hi (by omega), by omega, by omega⟩
theorem l_lv {la : Array Slot} {ad : Nat → Nat} {b : Nat} (hl : lv_has la 19 [(1, .ref (ad 0)), (0, .ref b)]) (h29 : ad 29 = b) : m_lv ad la 19 ([.ref 29, .ref 0] ++ List.replicate 17 .null) := by
  refine ⟨hl.1, hl.2.1, fun i v hi hv => ?_⟩
  match i, hi with
  | 0, hi =>
    cases hi
    have := hl.2.2 (0, .ref b) (by simp)
    refine ⟨rfl, ?_⟩
    show la[0]? = some (.val (.ref (ad 29)))
    rw [h29]
    exact this
  | 1, hi =>
    cases hi
    have := hl.2.2 (1, .ref (ad 0)) (by simp)
    exact ⟨rfl, this⟩
  | i + 2, hi =>
    have hi : (List.replicate 17 Value.null)[i]? = some v := hi
    rw [List.getElem?_replicate] at hi
    split at hi
    · cases hi; exact absurd rfl hv
    · cases hi
set_option maxHeartbeats 1000000 in
theorem l_8 {p : Program} {e : Env} {s : State} {m : MethodId} {below : List Frame} {meth : Method} {c : Code} (l : Launch) {b L : Nat} {xs : Nat → Int32} (hL : L ≤ 260) (C0 : lw_At p s m meth c b L xs) {D : va_G} {g : Nat → ClassId} (K : va_K D vwCl (m_tys g) s) {ad1 : Nat → Nat} {u v : Nat} (hu : u ≤ 29) (hv : v ≤ 1212) {H1 : Heap} {locs1 : List Loc} {la : Array Slot} (hl : lv_has la 19 [(1, .ref (ad1 0)), (0, .ref b)]) (hP1 : va_P D vwCl (m_w g ad1 hC0) H1) (hDA : va_D (fun q : Nat => s.heap.size ≤ q) (m_w g ad1 hC0)) (hS1 : va_S (fun q : Nat => s.heap.size ≤ q) s.heap H1 locs1) : W p l e room_1 s m #[Value.ref b] below meth c H1 locs1 u v (lw_Z below #[Value.ref b] s) (F0 m 8 la []) := by
  refine W.widen (k := 29) (n := 1212) hu hv ?_
  obtain ⟨ad2, a1, a2⟩ : ∃ ad2 : Nat → Nat, (∀ i, i < 29 → ad2 i = ad1 i) ∧ ad2 29 = b := ⟨fun i => if i = 29 then b else ad1 i, fun i hi => if_neg (by omega), if_pos rfl⟩
  have ew : m_w g ad2 hC0 = m_w g ad1 hC0 := m_w_ext (h := hC0) (fun i hi => a1 i hi) rfl
  obtain ⟨i1, i2⟩ := m_w_inj hDA
  have X : lX p s m meth c b L xs D g ad2 := ⟨C0, hL, K, fun i j hi hj he => i1 i j hi hj (by rw [← a1 i hi, ← a1 j hj]; exact he), fun i hi => by rw [a1 i hi]; exact i2 i hi, a2⟩
  have hl2 : lv_has la 19 [(1, .ref (ad2 0)), (0, .ref b)] := by rw [a1 0 (by omega)]; exact hl
  exact l_start (l := l) (e := e) (below := below) X ST_start H1 locs1 la (l_lv hl2 a2) (by rw [ew]; exact hP1) hS1
set_option maxHeartbeats 1000000 in
theorem whole_start {p : Program} {e : Env} {s : State} {m : MethodId} {below : List Frame} {meth : Method} {c : Code} (l : Launch) (hflags : l.flags = flags0) {b L : Nat} {xs : Nat → Int32} (hL : L ≤ 260) (C0 : lw_At p s m meth c b L xs) : W p l e room_1 s m #[Value.ref b] below meth c s.heap [] 0 0 (lw_Z below #[Value.ref b] s) (entryFrame m ([Value.ref b] : List Value).toArray 19) := by
  obtain ⟨hx, hb, hr, hml, hown, hts, hX, hbl, hlocks, hgv⟩ := id C0
  have hA : ∀ q : Nat, s.heap.size ≤ q → (fun q : Nat => s.heap.size ≤ q) q := fun _ h => h
  obtain ⟨D, hKc⟩ := l_known hts
  obtain ⟨cI, aI, fI⟩ := l_arr (hts _ w_int.1)
  obtain ⟨g, g0⟩ : ∃ g : Nat → ClassId, g 0 = cI := ⟨fun i => cI, rfl⟩
  subst g0
  have K : va_K D vwCl (m_tys g) s := by
    refine ⟨hKc, fun k q hq => ?_⟩
    match k, hq with
    | 0, hq => cases hq; exact ⟨aI, fI⟩
    | k + 1, hq => simp at hq
  have hS : va_S (fun q : Nat => s.heap.size ≤ q) s.heap s.heap [] := va_S.rf
  have hP : va_P D vwCl [] s.heap := fun k q h => by simp at h
  have hD : va_D (fun q : Nat => s.heap.size ≤ q) [] := ⟨fun i j p q h => by simp at h, fun k q h => by simp at h⟩
  have hl := lv_entry ([.ref b]) (n := 19) (Nat.le_of_ble_eq_true rfl)
  rw [lg_entry_eq]
  generalize (lg_sl ([.ref b]) ++ List.replicate (19 - (lg_sl ([.ref b])).length) Slot.unset).toArray = la at hl ⊢
  have hl : lv_has la 19 [(0, .ref b)] := hl
  refine va_new (ci := 7) (fs := [.null, .null, .null, .null, .null, .null]) (C := RX7) (T := TX7) (N := 6) hx hb hts (fun w q => (h_X7 w q).1) tyX7 tyX7_ok hown (hts _ wl_7.1) (hts _ wi_X7.1) (hts _ wn_7.1) K hP hD hS hA rfl z_X7 (Nat.le_of_ble_eq_true rfl) (Nat.le_of_ble_eq_true rfl) dL_law_0 (fun q1 H hP hD hS => ?_)
  have e7 : m_w g (fun _ => q1) [.inr (7, [.null, .null, .null, .null, .null, .null])] = [(q1, .inr (7, [.null, .null, .null, .null, .null, .null]))] := m_w_1
  have hP : va_P D vwCl (m_w g (fun _ => q1) [.inr (7, [.null, .null, .null, .null, .null, .null])]) H := by rw [e7]; exact hP
  have hD : va_D (fun q : Nat => s.heap.size ≤ q) (m_w g (fun _ => q1) [.inr (7, [.null, .null, .null, .null, .null, .null])]) := by rw [e7]; exact hD
  refine lv_dup hx hb dL_law_3 rfl ?_
  have hF := m_fr hD hS hA
  refine l_cI (M := k_L) (M2 := k_X7_init) (A := fun q : Nat => s.heap.size ≤ q) (As := []) (a := 0) (ad := fun _ => q1) (rest := [.ref q1]) dL_law_4 e_X7_init n_L_29 ⟨(Nat.le_of_ble_eq_true rfl), (Nat.le_of_ble_eq_true rfl)⟩ rfl (Nat.le_of_ble_eq_true rfl) C_start7 (lw_cx C0) K hl.1 hP (hD.weaken (fun _ _ _ _ => trivial)) hF hS.2.2 ⟨(Nat.le_of_ble_eq_true rfl), (Nat.le_of_ble_eq_true rfl)⟩ (fun ad1 H1 locs1 ha hP1 hD1 hsz hfr hlo => ?_)
  have hS1 : va_S (fun q : Nat => s.heap.size ≤ q) s.heap H1 locs1 := ⟨Nat.le_trans hS.1 hsz, fun q q1 q2 => (hfr q (Nat.lt_of_lt_of_le q1 hS.1) (fun z => q2 (hF q z))).trans (hS.2.1 q q1 q2), hlo⟩
  have hDA : va_D (fun q : Nat => s.heap.size ≤ q) (m_w g ad1 hC0) := hD1.weaken (fun _ q _ z => hF q.1 z)
  have e0 : ad1 0 = q1 := ha 0 (by decide)
  rw [← e0]
  refine lv_astore_n (lv' := [(1, .ref (ad1 0)), (0, .ref b)]) hx hb dL_law_7 rfl hl (by decide) rfl (fun la hl => ?_)
  exact l_8 l hL C0 K (Nat.le_of_ble_eq_true rfl) (Nat.le_of_ble_eq_true rfl) hl hP1 hDA hS1
