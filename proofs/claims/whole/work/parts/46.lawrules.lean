/-! THE LAW: its head as the kit has it, then its rules over two worlds side by side -/
def R_law : String := "HintPlacerLaw"
def lw_P (b : Addr) (xs : List Int32) (args : Array Value) (s : State) : Prop := args = #[.ref b] ∧ s.IntsAt b xs ∧ xs.length ≤ 3072 ∧ (Jvm.Cond.and given_1 narrow_1).before args s = true
def lw_Q (_ : Array Value) (s : State) (o : Outcome) (t : State) : Prop := o = .returned (some (.int 1)) ∧ Framed s o t [] 600000 7302250
def lw_Z (below : List Frame) (a : Array Value) (s : State) : State → Prop := fun t => ∃ o, t.status = .running ∧ Ended t below o ∧ lw_Q a s o t
/-- the law's own end, with 1 on the stack, nothing written that was there before, its room as the claim has it -/
theorem lw_ret {p : Program} {l : Launch} {e : Env} {s : State} {m : MethodId} {below : List Frame} {meth : Method} {c : Code} {b : Nat} (hx : p.tables.exec = Jvm.exec) (hb : c.code = code) (hr : meth.sig.returnType = ret) (hlocks : meth.locks = false) {pc : Nat} {H : Heap} {ls : Array Slot} (hdg : decode code pc = .ok (.ireturn, 1)) : W p l e room_1 s m #[Value.ref b] below meth c H [] 600000 7302250 (lw_Z below #[Value.ref b] s) (F0 m pc ls [.int 1]) := by
  intro T hT X
  obtain ⟨fs, hret, hrun, hended, hW, hframe⟩ := X.leave (v := some (.int 1)) (hlocks := hlocks) (fun h => by rw [hr] at h; cases h)
  have hmeth' : T.vm.method? m = some meth := X.method'
  refine ⟨T.setFrames fs, ?_, .returned (some (.int 1)), hrun, hended, rfl, ⟨_, rfl⟩, hW, hframe⟩
  jvm_step X.here [X.here.top, hx, hb, hdg, hmeth', hr, ret, narrow_b1]
  (try refine ⟨rfl, ?_⟩); (try refine ⟨rfl, ?_⟩)
  first | (intro acts; rw [hret _ acts rfl rfl rfl]) | rw [hret _ _ rfl rfl rfl]
  exact Steps.refl _
/-- what holds at the law's entry: the machine, the code, the tables' words (any of lw_tbl by 'hts w (by decide +kernel)'), the script of L ints xs at the cell b, what the Statement gives of the start (any of its parts by flat_of_before) -/
def lw_At (p : Program) (s : State) (m : MethodId) (meth : Method) (c : Code) (b L : Nat) (xs : Nat → Int32) : Prop :=
  p.tables.exec = Jvm.exec ∧ c.code = code ∧ meth.sig.returnType = ret ∧ c.maxLocals = 4 ∧ s.vm.findClass R_law = some m.cls ∧ (∀ w ∈ lw_tbl, w.before #[Value.ref b] s = true) ∧ va_X b L xs s s.heap ∧ b < s.heap.size ∧ meth.locks = false ∧ (Jvm.Cond.and given_1 narrow_1).before #[Value.ref b] s = true
def k_L : mM := (yL_law, cL_law, 4, ret, room_1)
theorem lw_cx {p : Program} {s : State} {m : MethodId} {meth : Method} {c : Code} {b L : Nat} {xs : Nat → Int32} (C : lw_At p s m meth c b L xs) : m_cx k_L p s m #[Value.ref b] meth c :=
  ⟨C.1, C.2.1, C.2.2.1, C.2.2.2.1, C.2.2.2.2.1, fun w hw => C.2.2.2.2.2.1 w (List.mem_filter.mp hw).1, C.2.2.2.2.2.2.2.2.1⟩
theorem m_w_D {A : Nat → Prop} {g : Nat → ClassId} {ad : Nat → Nat} {h : List mC} (hi : ∀ i j, i < h.length → j < h.length → ad i = ad j → i = j) (ha : ∀ i, i < h.length → A (ad i)) : va_D A (m_w g ad h) := by
  refine ⟨fun i j p q hp hq he => ?_, fun k q hk => ?_⟩
  · obtain ⟨p1, p2⟩ := m_w_ad hp
    obtain ⟨q1, q2⟩ := m_w_ad hq
    exact hi i j p1 q1 (by rw [← p2, ← q2, he])
  · obtain ⟨k1, k2⟩ := m_w_ad hk
    rw [k2]
    exact ha k k1
/-- what stands still while the law runs: the start, the tables, where the two objects' cells lie -/
def lX (p : Program) (s : State) (m : MethodId) (meth : Method) (c : Code) (b L : Nat) (xs : Nat → Int32) (D : va_G) (g : Nat → ClassId) (ad1 ad2 : Nat → Nat) : Prop :=
  lw_At p s m meth c b L xs ∧ L ≤ 3072 ∧ va_K D vwCl (m_tys g) s ∧ ((∀ i j, i < 29 → j < 29 → ad1 i = ad1 j → i = j) ∧ ∀ i, i < 29 → s.heap.size ≤ ad1 i) ∧ ((∀ i j, i < 8 → j < 8 → ad2 i = ad2 j → i = j) ∧ ∀ i, i < 8 → s.heap.size ≤ ad2 i) ∧ ∀ i j, i < 29 → j < 8 → ad1 i ≠ ad2 j
/-- from this place the law comes to its end, with h1 and h2 at the two objects and i as its number -/
def lJ (p : Program) (l : Launch) (e : Env) (s : State) (m : MethodId) (below : List Frame) (meth : Method) (c : Code) (b : Nat) (D : va_G) (g : Nat → ClassId) (ad1 ad2 : Nat → Nat) (pc i : Nat) (st : List Value) (h1 h2 : List mC) : Prop :=
  ∀ (H : Heap) (locs : List Loc) (la : Array Slot), lv_has la 4 [(0, .ref b), (1, .ref (ad1 0)), (2, .ref (ad2 0)), (3, .int (nI i))] → va_P D vwCl (m_w g ad1 h1) H → va_P D vwCl (m_w g ad2 h2) H → va_S (fun q : Nat => s.heap.size ≤ q) s.heap H locs → W p l e room_1 s m #[Value.ref b] below meth c H locs 37 2366 (lw_Z below #[Value.ref b] s) (F0 m pc la st)
section LAW
variable {p : Program} {l : Launch} {e : Env} {s : State} {m : MethodId} {below : List Frame} {meth : Method} {c : Code} {b L : Nat} {xs : Nat → Int32} {D : va_G} {g : Nat → ClassId} {ad1 ad2 : Nat → Nat} {pc i : Nat} {st : List Value} {h1 h2 : List mC}
theorem l_ld1 (X : lX p s m meth c b L xs D g ad1 ad2) (d0 : decode code pc = .ok (.aload_n 1, 1)) (kk : lJ p l e s m below meth c b D g ad1 ad2 (pc + 1) i (.ref (ad1 0) :: st) h1 h2) : lJ p l e s m below meth c b D g ad1 ad2 pc i st h1 h2 := by
  intro H locs la hl hP1 hP2 hS
  exact lv_aload_n X.1.1 X.1.2.1 d0 rfl (lv_at hl 1 rfl) (kk H locs la hl hP1 hP2 hS)
theorem l_ld2 (X : lX p s m meth c b L xs D g ad1 ad2) (d0 : decode code pc = .ok (.aload_n 2, 1)) (kk : lJ p l e s m below meth c b D g ad1 ad2 (pc + 1) i (.ref (ad2 0) :: st) h1 h2) : lJ p l e s m below meth c b D g ad1 ad2 pc i st h1 h2 := by
  intro H locs la hl hP1 hP2 hS
  exact lv_aload_n X.1.1 X.1.2.1 d0 rfl (lv_at hl 2 rfl) (kk H locs la hl hP1 hP2 hS)
/-- an argument out of the script -/
theorem l_arg (X : lX p s m meth c b L xs D g ad1 ad2) {k : Nat} {n : Int} (hi : i + k < L) (hk : Int32.ofInt n = nI k) (d0 : decode code pc = .ok (.aload_n 0, 1)) (d1 : decode code (pc + 1) = .ok (.iload_n 3, 1)) (d2 : decode code (pc + 1 + 1) = .ok (.iconst n, 1)) (d3 : decode code (pc + 1 + 1 + 1) = .ok (.iadd, 1)) (d4 : decode code (pc + 1 + 1 + 1 + 1) = .ok (.iaload, 1)) (kk : lJ p l e s m below meth c b D g ad1 ad2 (pc + 1 + 1 + 1 + 1 + 1) i (.int (xs (i + k)) :: st) h1 h2) : lJ p l e s m below meth c b D g ad1 ad2 pc i st h1 h2 := by
  obtain ⟨C0, hL, -, -⟩ := X
  intro H locs la hl hP1 hP2 hS
  refine lv_aload_n C0.1 C0.2.1 d0 rfl (lv_at hl 0 rfl) ?_
  refine lv_iload_n C0.1 C0.2.1 d1 rfl (lv_at hl 3 rfl) ?_
  refine lv_iconst (v := nI k) C0.1 C0.2.1 d2 hk ?_
  refine lv_iadd C0.1 C0.2.1 d3 ?_
  rw [nI_add]
  refine va_sld C0.1 C0.2.1 C0.2.2.2.2.2.2.1 C0.2.2.2.2.2.2.2.1 (Nat.not_le.mpr C0.2.2.2.2.2.2.2.1) hS (vp_in_nI hi (by omega)) d4 ?_
  rw [nI_clamp (by omega)]
  exact kk H locs la hl hP1 hP2 hS
theorem l_c7 (X : lX p s m meth c b L xs D g ad1 ad2) {K : mM} {n idx : Nat} {as rest : List Value} {r : Int32} {h1' : List mC} (hd : decode code pc = .ok (.invokevirtual idx, 3)) (hm : m_mev K n) (hk : m_lk RL idx K.1) (hR : m_rm k_L K) (hn : as.length = n) (hcl : (vwCl[7]?).map (fun q => q.1) = some K.1.cls) (hl1 : h1.length = 29) (hl2 : h2.length = 8) (hc : ∃ fs, h1[0]? = some (.inr (7, fs))) (hcat : (rest.map fun v => v.category).sum ≤ 8) (hast : ∀ ad : Nat → Nat, as.map (m_v ad) = as) (hst : as.reverse ++ .ref (ad1 0) :: rest = st) (ct : mCt K (.ref 0 :: as) h1 (some (.int r)) h1') (kk : lJ p l e s m below meth c b D g ad1 ad2 (pc + 3) i (.int r :: rest) h1' h2) : lJ p l e s m below meth c b D g ad1 ad2 pc i st h1 h2 := by
  obtain ⟨C0, -, hK, ⟨i1, a1⟩, -, hdj⟩ := X
  obtain ⟨fs, hc⟩ := hc
  intro H locs la hl0 hP1 hP2 hS
  have hF : ∀ q : Nat, va_A (m_w g ad1 h1) H.size q → s.heap.size ≤ q := by
    intro q hq
    rcases hq with ⟨k, e0, hq⟩ | hq
    · obtain ⟨z1, z2⟩ := m_w_ad hq
      have z3 : q = ad1 k := z2
      rw [z3]
      exact a1 k (by omega)
    · exact Nat.le_trans hS.1 hq
  have hD : va_D (fun _ => True) (m_w g ad1 h1) := m_w_D (fun i j hi hj => i1 i j (by omega) (by omega)) (fun _ _ => trivial)
  have est : (as.map (m_v ad1)).reverse ++ .ref (ad1 0) :: rest = st := by rw [hast ad1]; exact hst
  rw [← est]
  refine l_cV (M := k_L) (A := fun q : Nat => s.heap.size ≤ q) (fs := fs) hd hm hk hR hn hc hcl hcat ct (lw_cx C0) hK hl0.1 hP1 hD hF hS.2.2 ⟨Nat.le_of_ble_eq_true rfl, Nat.le_of_ble_eq_true rfl⟩ (fun H1 locs1 hP' hD' hsz hfr hlo => ?_)
  exact kk H1 locs1 la hl0 hP' (l_other hP2 (fun i j hi hj => hdj i j (by omega) (by omega)) hfr) ⟨Nat.le_trans hS.1 hsz, fun q q1 q2 => (hfr q (Nat.lt_of_lt_of_le q1 hS.1) (fun z => q2 (hF q z))).trans (hS.2.1 q q1 q2), hlo⟩
theorem l_c8 (X : lX p s m meth c b L xs D g ad1 ad2) {K : mM} {n idx : Nat} {as rest : List Value} {r : Int32} {h2' : List mC} (hd : decode code pc = .ok (.invokevirtual idx, 3)) (hm : m_mev K n) (hk : m_lk RL idx K.1) (hR : m_rm k_L K) (hn : as.length = n) (hcl : (vwCl[8]?).map (fun q => q.1) = some K.1.cls) (hl1 : h1.length = 29) (hl2 : h2.length = 8) (hc : ∃ fs, h2[0]? = some (.inr (8, fs))) (hcat : (rest.map fun v => v.category).sum ≤ 8) (hast : ∀ ad : Nat → Nat, as.map (m_v ad) = as) (hst : as.reverse ++ .ref (ad2 0) :: rest = st) (ct : mCt K (.ref 0 :: as) h2 (some (.int r)) h2') (kk : lJ p l e s m below meth c b D g ad1 ad2 (pc + 3) i (.int r :: rest) h1 h2') : lJ p l e s m below meth c b D g ad1 ad2 pc i st h1 h2 := by
  obtain ⟨C0, -, hK, -, ⟨i2, a2⟩, hdj⟩ := X
  obtain ⟨fs, hc⟩ := hc
  intro H locs la hl0 hP1 hP2 hS
  have hF : ∀ q : Nat, va_A (m_w g ad2 h2) H.size q → s.heap.size ≤ q := by
    intro q hq
    rcases hq with ⟨k, e0, hq⟩ | hq
    · obtain ⟨z1, z2⟩ := m_w_ad hq
      have z3 : q = ad2 k := z2
      rw [z3]
      exact a2 k (by omega)
    · exact Nat.le_trans hS.1 hq
  have hD : va_D (fun _ => True) (m_w g ad2 h2) := m_w_D (fun i j hi hj => i2 i j (by omega) (by omega)) (fun _ _ => trivial)
  have est : (as.map (m_v ad2)).reverse ++ .ref (ad2 0) :: rest = st := by rw [hast ad2]; exact hst
  rw [← est]
  refine l_cV (M := k_L) (A := fun q : Nat => s.heap.size ≤ q) (fs := fs) hd hm hk hR hn hc hcl hcat ct (lw_cx C0) hK hl0.1 hP2 hD hF hS.2.2 ⟨Nat.le_of_ble_eq_true rfl, Nat.le_of_ble_eq_true rfl⟩ (fun H1 locs1 hP' hD' hsz hfr hlo => ?_)
  exact kk H1 locs1 la hl0 (l_other hP1 (fun i j hi hj z => hdj j i (by omega) (by omega) z.symm) hfr) hP' ⟨Nat.le_trans hS.1 hsz, fun q q1 q2 => (hfr q (Nat.lt_of_lt_of_le q1 hS.1) (fun z => q2 (hF q z))).trans (hS.2.1 q q1 q2), hlo⟩
theorem l_eq (X : lX p s m meth c b L xs D g ad1 ad2) {r : Int32} {off : Int} (tgt : Nat) (hd : decode code pc = .ok (.if_icmp .eq off, 3)) (ht : (pc : Int) + off = (tgt : Int)) (kk : lJ p l e s m below meth c b D g ad1 ad2 tgt i st h1 h2) : lJ p l e s m below meth c b D g ad1 ad2 pc i (.int r :: .int r :: st) h1 h2 := by
  intro H locs la hl hP1 hP2 hS
  exact lv_icmp_eq X.1.1 X.1.2.1 hd ht (fun _ => kk H locs la hl hP1 hP2 hS) (fun z => absurd rfl z)
end LAW
