/-! THE LAW: its head as the kit has it, then its rules: the object stands at the cells ad, the script at ad 29 -/
def R_law : String := "HintPlacerLaw"
def lw_P (b : Addr) (xs : List Int32) (args : Array Value) (s : State) : Prop := args = #[.ref b] ∧ s.IntsAt b xs ∧ xs.length ≤ 260 ∧ (Jvm.Cond.and given_1 narrow_1).before args s = true
def lw_Q (_ : Array Value) (s : State) (o : Outcome) (t : State) : Prop := o = .returned (some (.int 1)) ∧ Framed s o t [] 600000 7302250
def lw_Z (below : List Frame) (a : Array Value) (s : State) : State → Prop := fun t => ∃ o, t.status = .running ∧ Ended t below o ∧ lw_Q a s o t
/-- the law's own end, with 1 on the stack, nothing written that was there before, its room as the claim has it -/
theorem lw_ret {p : Program} {l : Launch} {e : Env} {s : State} {m : MethodId} {below : List Frame} {meth : Method} {c : Code} {b : Nat} (hx : p.tables.exec = Jvm.exec) (hb : c.code = code) (hr : meth.sig.returnType = ret) (hlocks : meth.locks = false) {pc : Nat} {H : Heap} {ls : Array Slot} (hdg : decode code pc = .ok (.ireturn, 1)) : W p l e room_1 s m #[Value.ref b] below meth c H [] 600000 7302250 (lw_Z below #[Value.ref b] s) (F0 m pc ls [.int 1]) := by
  intro T hT X
  obtain ⟨fs, hret, hrun, hended, hW, hframe⟩ := X.leave (v := some (.int 1)) (hlocks := hlocks) (fun h => by rw [hr] at h; cases h)
  have hmeth' : T.vm.method? m = some meth := X.method'
  refine ⟨T.setFrames fs, ?_, .returned (some (.int 1)), hrun, hended, rfl, ⟨_, rfl⟩, hW, hframe⟩
  jvm_step X.here [X.here.top, hx, hb, hdg, hmeth', hr, ret, narrow_b1]
  (try refine ⟨rfl, ?_⟩); (try refine ⟨rfl, ?_⟩)
  first | (intro acts; rw [hret _ acts rfl rfl rfl]) | rw [hret _ _ rfl rfl rfl]
  exact Steps.refl _
/-- what holds at the law's entry: the machine, the code, the tables' words (any of lw_tbl by 'hts w (by decide +kernel)'), the script of L ints xs at the cell b, what the Statement gives of the start (any of its parts by flat_of_before) -/
def lw_At (p : Program) (s : State) (m : MethodId) (meth : Method) (c : Code) (b L : Nat) (xs : Nat → Int32) : Prop :=
  p.tables.exec = Jvm.exec ∧ c.code = code ∧ meth.sig.returnType = ret ∧ c.maxLocals = 19 ∧ s.vm.findClass R_law = some m.cls ∧ (∀ w ∈ lw_tbl, w.before #[Value.ref b] s = true) ∧ va_X b L xs s s.heap ∧ b < s.heap.size ∧ meth.locks = false ∧ (Jvm.Cond.and given_1 narrow_1).before #[Value.ref b] s = true
def k_L : mM := (yL_law, cL_law, 19, ret, room_1)
theorem lw_cx {p : Program} {s : State} {m : MethodId} {meth : Method} {c : Code} {b L : Nat} {xs : Nat → Int32} (C : lw_At p s m meth c b L xs) : m_cx k_L p s m #[Value.ref b] meth c :=
  ⟨C.1, C.2.1, C.2.2.1, C.2.2.2.1, C.2.2.2.2.1, fun w hw => C.2.2.2.2.2.1 w (List.mem_filter.mp hw).1, C.2.2.2.2.2.2.2.2.1⟩
theorem m_w_D {A : Nat → Prop} {g : Nat → ClassId} {ad : Nat → Nat} {h : List mC} (hi : ∀ i j, i < h.length → j < h.length → ad i = ad j → i = j) (ha : ∀ i, i < h.length → A (ad i)) : va_D A (m_w g ad h) := by
  refine ⟨fun i j p q hp hq he => ?_, fun k q hk => ?_⟩
  · obtain ⟨p1, p2⟩ := m_w_ad hp
    obtain ⟨q1, q2⟩ := m_w_ad hq
    exact hi i j p1 q1 (by rw [← p2, ← q2, he])
  · obtain ⟨k1, k2⟩ := m_w_ad hk
    rw [k2]
    exact ha k k1
/-- the script's k-th number as the law's cell reads it -/
def cv (L : Nat) (xs : Nat → Int32) (k : Nat) : Int32 := (if nI k < Int32.ofNat L then xs k else 15485959 * nI k + 109) &&& 2147483647
theorem cv_pos (L : Nat) (xs : Nat → Int32) (k : Nat) : ∃ y : Nat, y < 2 ^ 31 ∧ cv L xs k = nI y := by
  have h : ¬ cv L xs k < 0 := by
    unfold cv
    generalize (if nI k < Int32.ofNat L then xs k else 15485959 * nI k + 109) = x
    have e1 : (x &&& 2147483647).toInt = (x.toBitVec &&& 2147483647#32).toInt := rfl
    rw [Int32.lt_iff_toInt_lt, e1]
    have e2 : (x.toBitVec &&& 2147483647#32).toNat ≤ 2147483647 := by
      rw [BitVec.toNat_and]
      exact Nat.and_le_right
    have e3 := BitVec.toInt_eq_toNat_of_lt (x := x.toBitVec &&& 2147483647#32) (by omega)
    have e4 : (0 : Int32).toInt = 0 := by decide
    rw [e3, e4]
    omega
  exact nI_of h
/-- what stands still while the law runs -/
def lX (p : Program) (s : State) (m : MethodId) (meth : Method) (c : Code) (b L : Nat) (xs : Nat → Int32) (D : va_G) (g : Nat → ClassId) (ad : Nat → Nat) : Prop :=
  lw_At p s m meth c b L xs ∧ L ≤ 260 ∧ va_K D vwCl (m_tys g) s ∧ (∀ i j, i < 29 → j < 29 → ad i = ad j → i = j) ∧ (∀ i, i < 29 → s.heap.size ≤ ad i) ∧ ad 29 = b
/-- from this place the law comes to its end, with h at the object -/
def lJ (p : Program) (l : Launch) (e : Env) (s : State) (m : MethodId) (below : List Frame) (meth : Method) (c : Code) (b : Nat) (D : va_G) (g : Nat → ClassId) (ad : Nat → Nat) (pc : Nat) (ls st : List Value) (h : List mC) : Prop :=
  ∀ (H : Heap) (locs : List Loc) (la : Array Slot), m_lv ad la 19 ls → va_P D vwCl (m_w g ad h) H → va_S (fun q : Nat => s.heap.size ≤ q) s.heap H locs → W p l e room_1 s m #[Value.ref b] below meth c H locs 29 1212 (lw_Z below #[Value.ref b] s) (F0 m pc la (st.map (m_v ad)))
section LAW
variable {p : Program} {l : Launch} {e : Env} {s : State} {m : MethodId} {below : List Frame} {meth : Method} {c : Code} {b L : Nat} {xs : Nat → Int32} {D : va_G} {g : Nat → ClassId} {ad : Nat → Nat} {pc : Nat} {ls st : List Value} {h : List mC}
theorem lJ_iconst (X : lX p s m meth c b L xs D g ad) {n : Int} {v : Int32} (hd : decode code pc = .ok (.iconst n, 1)) (hv : Int32.ofInt n = v) (k : lJ p l e s m below meth c b D g ad (pc + 1) ls (.int v :: st) h) : lJ p l e s m below meth c b D g ad pc ls st h := by
  intro H locs la hL hP hS
  exact lv_iconst X.1.1 X.1.2.1 hd hv (k H locs la hL hP hS)
theorem lJ_bipush (X : lX p s m meth c b L xs D g ad) {n : Int} {v : Int32} (hd : decode code pc = .ok (.bipush n, 2)) (hv : (Int8.ofInt n).toInt32 = v) (k : lJ p l e s m below meth c b D g ad (pc + 2) ls (.int v :: st) h) : lJ p l e s m below meth c b D g ad pc ls st h := by
  intro H locs la hL hP hS
  exact lv_bipush X.1.1 X.1.2.1 hd hv (k H locs la hL hP hS)
theorem lJ_sipush (X : lX p s m meth c b L xs D g ad) {n : Int} {v : Int32} (hd : decode code pc = .ok (.sipush n, 3)) (hv : (Int16.ofInt n).toInt32 = v) (k : lJ p l e s m below meth c b D g ad (pc + 3) ls (.int v :: st) h) : lJ p l e s m below meth c b D g ad pc ls st h := by
  intro H locs la hL hP hS
  exact lv_sipush X.1.1 X.1.2.1 hd hv (k H locs la hL hP hS)
theorem lJ_iload_n (X : lX p s m meth c b L xs D g ad) {i : Fin 4} {x : Int32} (hd : decode code pc = .ok (.iload_n i, 1)) (hl : ls[(i : Nat)]? = some (.int x)) (k : lJ p l e s m below meth c b D g ad (pc + 1) ls (.int x :: st) h) : lJ p l e s m below meth c b D g ad pc ls st h := by
  intro H locs la hL hP hS
  exact lv_iload_n X.1.1 X.1.2.1 hd rfl (hL.2.2 _ _ hl (fun z => by cases z)).2 (k H locs la hL hP hS)
theorem lJ_iload (X : lX p s m meth c b L xs D g ad) {i : Nat} {x : Int32} (hd : decode code pc = .ok (.iload i, 2)) (hl : ls[i]? = some (.int x)) (k : lJ p l e s m below meth c b D g ad (pc + 2) ls (.int x :: st) h) : lJ p l e s m below meth c b D g ad pc ls st h := by
  intro H locs la hL hP hS
  exact lv_iload X.1.1 X.1.2.1 hd (hL.2.2 _ _ hl (fun z => by cases z)).2 (k H locs la hL hP hS)
theorem lJ_aload_n (X : lX p s m meth c b L xs D g ad) {i : Fin 4} {x : Nat} (hd : decode code pc = .ok (.aload_n i, 1)) (hl : ls[(i : Nat)]? = some (.ref x)) (k : lJ p l e s m below meth c b D g ad (pc + 1) ls (.ref x :: st) h) : lJ p l e s m below meth c b D g ad pc ls st h := by
  intro H locs la hL hP hS
  exact lv_aload_n X.1.1 X.1.2.1 hd rfl (hL.2.2 _ _ hl (fun z => by cases z)).2 (k H locs la hL hP hS)
theorem lJ_istore_n (X : lX p s m meth c b L xs D g ad) {i : Fin 4} {x : Int32} (hd : decode code pc = .ok (.istore_n i, 1)) (hn : (i : Nat) < 19) {ls2 : List Value} (hs : ls.set (i : Nat) (.int x) = ls2) (k : lJ p l e s m below meth c b D g ad (pc + 1) ls2 st h) : lJ p l e s m below meth c b D g ad pc ls (.int x :: st) h := by
  subst hs
  intro H locs la hL hP hS
  exact lv_istore_n X.1.1 X.1.2.1 hd rfl (m_lv_has hL) hn rfl (fun la' hl' => k H locs la' (m_lv_set hL rfl rfl hn hl') hP hS)
theorem lJ_istore (X : lX p s m meth c b L xs D g ad) {i : Nat} {x : Int32} (hd : decode code pc = .ok (.istore i, 2)) (hn : i < 19) {ls2 : List Value} (hs : ls.set i (.int x) = ls2) (k : lJ p l e s m below meth c b D g ad (pc + 2) ls2 st h) : lJ p l e s m below meth c b D g ad pc ls (.int x :: st) h := by
  subst hs
  intro H locs la hL hP hS
  exact lv_istore X.1.1 X.1.2.1 hd (m_lv_has hL) hn rfl (fun la' hl' => k H locs la' (m_lv_set hL rfl rfl hn hl') hP hS)
theorem lJ_iinc (X : lX p s m meth c b L xs D g ad) {i : Nat} {n : Int} {x v : Int32} (hd : decode code pc = .ok (.iinc i n, 3)) (hl : ls[i]? = some (.int x)) (hn : i < 19) (hv : x + Int32.ofInt n = v) {ls2 : List Value} (hs : ls.set i (.int v) = ls2) (k : lJ p l e s m below meth c b D g ad (pc + 3) ls2 st h) : lJ p l e s m below meth c b D g ad pc ls st h := by
  subst hs
  intro H locs la hL hP hS
  have hm := m_al_of (ad := ad) (k := 0) hl (fun z => by cases z)
  rw [Nat.zero_add] at hm
  obtain ⟨j, hj⟩ := List.getElem?_of_mem hm
  exact lv_iinc X.1.1 X.1.2.1 hd (m_lv_has hL) hj hv hn rfl (fun la' hl' => k H locs la' (m_lv_set hL rfl rfl hn hl') hP hS)
theorem lJ_iadd (X : lX p s m meth c b L xs D g ad) {x y : Int32} (hd : decode code pc = .ok (.iadd, 1)) (k : lJ p l e s m below meth c b D g ad (pc + 1) ls (.int (x + y) :: st) h) : lJ p l e s m below meth c b D g ad pc ls (.int y :: .int x :: st) h := by
  intro H locs la hL hP hS
  exact lv_iadd X.1.1 X.1.2.1 hd (k H locs la hL hP hS)
theorem lJ_isub (X : lX p s m meth c b L xs D g ad) {x y : Int32} (hd : decode code pc = .ok (.isub, 1)) (k : lJ p l e s m below meth c b D g ad (pc + 1) ls (.int (x - y) :: st) h) : lJ p l e s m below meth c b D g ad pc ls (.int y :: .int x :: st) h := by
  intro H locs la hL hP hS
  exact lv_isub X.1.1 X.1.2.1 hd (k H locs la hL hP hS)
theorem lJ_imul (X : lX p s m meth c b L xs D g ad) {x y : Int32} (hd : decode code pc = .ok (.imul, 1)) (k : lJ p l e s m below meth c b D g ad (pc + 1) ls (.int (x * y) :: st) h) : lJ p l e s m below meth c b D g ad pc ls (.int y :: .int x :: st) h := by
  intro H locs la hL hP hS
  exact lv_imul X.1.1 X.1.2.1 hd (k H locs la hL hP hS)
theorem lJ_idiv (X : lX p s m meth c b L xs D g ad) {x y : Int32} (hd : decode code pc = .ok (.idiv, 1)) (hne : ¬ y = 0) (k : lJ p l e s m below meth c b D g ad (pc + 1) ls (.int (x / y) :: st) h) : lJ p l e s m below meth c b D g ad pc ls (.int y :: .int x :: st) h := by
  intro H locs la hL hP hS
  exact lv_idiv X.1.1 X.1.2.1 hd hne (k H locs la hL hP hS)
theorem lJ_irem (X : lX p s m meth c b L xs D g ad) {x y : Int32} (hd : decode code pc = .ok (.irem, 1)) (hne : ¬ y = 0) (k : lJ p l e s m below meth c b D g ad (pc + 1) ls (.int (x - x / y * y) :: st) h) : lJ p l e s m below meth c b D g ad pc ls (.int y :: .int x :: st) h := by
  intro H locs la hL hP hS
  exact lv_irem X.1.1 X.1.2.1 hd hne (k H locs la hL hP hS)
theorem lJ_goto (X : lX p s m meth c b L xs D g ad) {off : Int} (tgt : Nat) (hd : decode code pc = .ok (.goto off, 3)) (ht : (pc : Int) + off = (tgt : Int)) (k : lJ p l e s m below meth c b D g ad tgt ls st h) : lJ p l e s m below meth c b D g ad pc ls st h := by
  intro H locs la hL hP hS
  exact lv_goto X.1.1 X.1.2.1 hd ht (k H locs la hL hP hS)
theorem lJ_if_eq (X : lX p s m meth c b L xs D g ad) {x : Int32} {off : Int} (tgt : Nat) (hd : decode code pc = .ok (.ifCond .eq off, 3)) (ht : (pc : Int) + off = (tgt : Int)) (kt : x = 0 → lJ p l e s m below meth c b D g ad tgt ls st h) (kf : ¬ x = 0 → lJ p l e s m below meth c b D g ad (pc + 3) ls st h) : lJ p l e s m below meth c b D g ad pc ls (.int x :: st) h := by
  intro H locs la hL hP hS
  exact lv_if_eq X.1.1 X.1.2.1 hd ht (fun z => kt z H locs la hL hP hS) (fun z => kf z H locs la hL hP hS)
theorem lJ_if_ne (X : lX p s m meth c b L xs D g ad) {x : Int32} {off : Int} (tgt : Nat) (hd : decode code pc = .ok (.ifCond .ne off, 3)) (ht : (pc : Int) + off = (tgt : Int)) (kt : ¬ x = 0 → lJ p l e s m below meth c b D g ad tgt ls st h) (kf : x = 0 → lJ p l e s m below meth c b D g ad (pc + 3) ls st h) : lJ p l e s m below meth c b D g ad pc ls (.int x :: st) h := by
  intro H locs la hL hP hS
  exact lv_if_ne X.1.1 X.1.2.1 hd ht (fun z => kt z H locs la hL hP hS) (fun z => kf z H locs la hL hP hS)
theorem lJ_if_lt (X : lX p s m meth c b L xs D g ad) {x : Int32} {off : Int} (tgt : Nat) (hd : decode code pc = .ok (.ifCond .lt off, 3)) (ht : (pc : Int) + off = (tgt : Int)) (kt : x < 0 → lJ p l e s m below meth c b D g ad tgt ls st h) (kf : ¬ x < 0 → lJ p l e s m below meth c b D g ad (pc + 3) ls st h) : lJ p l e s m below meth c b D g ad pc ls (.int x :: st) h := by
  intro H locs la hL hP hS
  exact lv_if_lt X.1.1 X.1.2.1 hd ht (fun z => kt z H locs la hL hP hS) (fun z => kf z H locs la hL hP hS)
theorem lJ_if_ge (X : lX p s m meth c b L xs D g ad) {x : Int32} {off : Int} (tgt : Nat) (hd : decode code pc = .ok (.ifCond .ge off, 3)) (ht : (pc : Int) + off = (tgt : Int)) (kt : 0 ≤ x → lJ p l e s m below meth c b D g ad tgt ls st h) (kf : ¬ 0 ≤ x → lJ p l e s m below meth c b D g ad (pc + 3) ls st h) : lJ p l e s m below meth c b D g ad pc ls (.int x :: st) h := by
  intro H locs la hL hP hS
  exact lv_if_ge X.1.1 X.1.2.1 hd ht (fun z => kt z H locs la hL hP hS) (fun z => kf z H locs la hL hP hS)
theorem lJ_if_gt (X : lX p s m meth c b L xs D g ad) {x : Int32} {off : Int} (tgt : Nat) (hd : decode code pc = .ok (.ifCond .gt off, 3)) (ht : (pc : Int) + off = (tgt : Int)) (kt : 0 < x → lJ p l e s m below meth c b D g ad tgt ls st h) (kf : ¬ 0 < x → lJ p l e s m below meth c b D g ad (pc + 3) ls st h) : lJ p l e s m below meth c b D g ad pc ls (.int x :: st) h := by
  intro H locs la hL hP hS
  exact lv_if_gt X.1.1 X.1.2.1 hd ht (fun z => kt z H locs la hL hP hS) (fun z => kf z H locs la hL hP hS)
theorem lJ_if_le (X : lX p s m meth c b L xs D g ad) {x : Int32} {off : Int} (tgt : Nat) (hd : decode code pc = .ok (.ifCond .le off, 3)) (ht : (pc : Int) + off = (tgt : Int)) (kt : x ≤ 0 → lJ p l e s m below meth c b D g ad tgt ls st h) (kf : ¬ x ≤ 0 → lJ p l e s m below meth c b D g ad (pc + 3) ls st h) : lJ p l e s m below meth c b D g ad pc ls (.int x :: st) h := by
  intro H locs la hL hP hS
  exact lv_if_le X.1.1 X.1.2.1 hd ht (fun z => kt z H locs la hL hP hS) (fun z => kf z H locs la hL hP hS)
theorem lJ_icmp_eq (X : lX p s m meth c b L xs D g ad) {x y : Int32} {off : Int} (tgt : Nat) (hd : decode code pc = .ok (.if_icmp .eq off, 3)) (ht : (pc : Int) + off = (tgt : Int)) (kt : x = y → lJ p l e s m below meth c b D g ad tgt ls st h) (kf : ¬ x = y → lJ p l e s m below meth c b D g ad (pc + 3) ls st h) : lJ p l e s m below meth c b D g ad pc ls (.int y :: .int x :: st) h := by
  intro H locs la hL hP hS
  exact lv_icmp_eq X.1.1 X.1.2.1 hd ht (fun z => kt z H locs la hL hP hS) (fun z => kf z H locs la hL hP hS)
theorem lJ_icmp_ne (X : lX p s m meth c b L xs D g ad) {x y : Int32} {off : Int} (tgt : Nat) (hd : decode code pc = .ok (.if_icmp .ne off, 3)) (ht : (pc : Int) + off = (tgt : Int)) (kt : ¬ x = y → lJ p l e s m below meth c b D g ad tgt ls st h) (kf : x = y → lJ p l e s m below meth c b D g ad (pc + 3) ls st h) : lJ p l e s m below meth c b D g ad pc ls (.int y :: .int x :: st) h := by
  intro H locs la hL hP hS
  exact lv_icmp_ne X.1.1 X.1.2.1 hd ht (fun z => kt z H locs la hL hP hS) (fun z => kf z H locs la hL hP hS)
theorem lJ_icmp_lt (X : lX p s m meth c b L xs D g ad) {x y : Int32} {off : Int} (tgt : Nat) (hd : decode code pc = .ok (.if_icmp .lt off, 3)) (ht : (pc : Int) + off = (tgt : Int)) (kt : x < y → lJ p l e s m below meth c b D g ad tgt ls st h) (kf : ¬ x < y → lJ p l e s m below meth c b D g ad (pc + 3) ls st h) : lJ p l e s m below meth c b D g ad pc ls (.int y :: .int x :: st) h := by
  intro H locs la hL hP hS
  exact lv_icmp_lt X.1.1 X.1.2.1 hd ht (fun z => kt z H locs la hL hP hS) (fun z => kf z H locs la hL hP hS)
theorem lJ_icmp_ge (X : lX p s m meth c b L xs D g ad) {x y : Int32} {off : Int} (tgt : Nat) (hd : decode code pc = .ok (.if_icmp .ge off, 3)) (ht : (pc : Int) + off = (tgt : Int)) (kt : y ≤ x → lJ p l e s m below meth c b D g ad tgt ls st h) (kf : ¬ y ≤ x → lJ p l e s m below meth c b D g ad (pc + 3) ls st h) : lJ p l e s m below meth c b D g ad pc ls (.int y :: .int x :: st) h := by
  intro H locs la hL hP hS
  exact lv_icmp_ge X.1.1 X.1.2.1 hd ht (fun z => kt z H locs la hL hP hS) (fun z => kf z H locs la hL hP hS)
theorem lJ_icmp_gt (X : lX p s m meth c b L xs D g ad) {x y : Int32} {off : Int} (tgt : Nat) (hd : decode code pc = .ok (.if_icmp .gt off, 3)) (ht : (pc : Int) + off = (tgt : Int)) (kt : y < x → lJ p l e s m below meth c b D g ad tgt ls st h) (kf : ¬ y < x → lJ p l e s m below meth c b D g ad (pc + 3) ls st h) : lJ p l e s m below meth c b D g ad pc ls (.int y :: .int x :: st) h := by
  intro H locs la hL hP hS
  exact lv_icmp_gt X.1.1 X.1.2.1 hd ht (fun z => kt z H locs la hL hP hS) (fun z => kf z H locs la hL hP hS)
theorem lJ_icmp_le (X : lX p s m meth c b L xs D g ad) {x y : Int32} {off : Int} (tgt : Nat) (hd : decode code pc = .ok (.if_icmp .le off, 3)) (ht : (pc : Int) + off = (tgt : Int)) (kt : x ≤ y → lJ p l e s m below meth c b D g ad tgt ls st h) (kf : ¬ x ≤ y → lJ p l e s m below meth c b D g ad (pc + 3) ls st h) : lJ p l e s m below meth c b D g ad pc ls (.int y :: .int x :: st) h := by
  intro H locs la hL hP hS
  exact lv_icmp_le X.1.1 X.1.2.1 hd ht (fun z => kt z H locs la hL hP hS) (fun z => kf z H locs la hL hP hS)
theorem lJ_tin (X : lX p s m meth c b L xs D g ad) {dflt lo hi : Int} {offs : Array Int} {len : Nat} {x : Int32} {off : Int} (tgt : Nat) (hd : decode code pc = .ok (.tableswitch dflt lo hi offs, len)) (h1 : ¬ x.toInt < lo) (h2 : ¬ hi < x.toInt) (ho : offs[(x.toInt - lo).toNat]? = some off) (ht : (pc : Int) + off = (tgt : Int)) (k : lJ p l e s m below meth c b D g ad tgt ls st h) : lJ p l e s m below meth c b D g ad pc ls (.int x :: st) h := by
  intro H locs la hL hP hS
  exact lv_tableIn X.1.1 X.1.2.1 hd h1 h2 ho ht (k H locs la hL hP hS)
theorem lJ_tout (X : lX p s m meth c b L xs D g ad) {dflt lo hi : Int} {offs : Array Int} {len : Nat} {x : Int32} (tgt : Nat) (hd : decode code pc = .ok (.tableswitch dflt lo hi offs, len)) (h1 : x.toInt < lo ∨ hi < x.toInt) (ht : (pc : Int) + dflt = (tgt : Int)) (k : lJ p l e s m below meth c b D g ad tgt ls st h) : lJ p l e s m below meth c b D g ad pc ls (.int x :: st) h := by
  intro H locs la hL hP hS
  exact lv_tableOut X.1.1 X.1.2.1 hd h1 ht (k H locs la hL hP hS)
theorem lJ_top {x y : Int32} (q : x = y) (k : lJ p l e s m below meth c b D g ad pc ls (.int y :: st) h) : lJ p l e s m below meth c b D g ad pc ls (.int x :: st) h := q ▸ k
theorem lJ_case {x : Int32} (v : Int32) (kt : x = v → lJ p l e s m below meth c b D g ad pc ls (.int v :: st) h) (kf : ¬ x = v → lJ p l e s m below meth c b D g ad pc ls (.int x :: st) h) : lJ p l e s m below meth c b D g ad pc ls (.int x :: st) h := by
  by_cases q : x = v
  · rw [q]; exact kt q
  · exact kf q
/-- a call on the object -/
theorem lJ_cV (X : lX p s m meth c b L xs D g ad) {K : mM} {n idx : Nat} {as rest : List Value} {r : Int32} {h' : List mC} (hd : decode code pc = .ok (.invokevirtual idx, 3)) (hm : m_mev K n) (hk : m_lk RL idx K.1) (hR : m_rm k_L K) (hn : as.length = n) (hcl : (vwCl[7]?).map (fun q => q.1) = some K.1.cls) (hcat : (rest.map fun v => v.category).sum ≤ 8) (hst : as.reverse ++ .ref 0 :: rest = st) (ct : lCt K as h r h') (kk : lJ p l e s m below meth c b D g ad (pc + 3) ls (.int r :: rest) h') : lJ p l e s m below meth c b D g ad pc ls st h := by
  obtain ⟨C0, -, hK, i1, a1, -⟩ := X
  obtain ⟨hl1, ⟨fs, hc⟩, ct⟩ := ct
  subst hst
  intro H locs la hL hP hS
  have hF : ∀ q : Nat, va_A (m_w g ad h) H.size q → s.heap.size ≤ q := by
    intro q hq
    rcases hq with ⟨k, e0, hq⟩ | hq
    · obtain ⟨z1, z2⟩ := m_w_ad hq
      have z3 : q = ad k := z2
      rw [z3]
      exact a1 k (by omega)
    · exact Nat.le_trans hS.1 hq
  have hD : va_D (fun _ => True) (m_w g ad h) := m_w_D (fun i j hi hj => i1 i j (by omega) (by omega)) (fun _ _ => trivial)
  have hstk : (as.reverse ++ Value.ref 0 :: rest).map (m_v ad) = (as.map (m_v ad)).reverse ++ .ref (ad 0) :: rest.map (m_v ad) := by simp [m_v]
  rw [hstk]
  refine l_cV (M := k_L) (A := fun q : Nat => s.heap.size ≤ q) (fs := fs) hd hm hk hR hn hc hcl (by rw [m_cats]; exact hcat) ct (lw_cx C0) hK hL.1 hP hD hF hS.2.2 ⟨Nat.le_of_ble_eq_true rfl, Nat.le_of_ble_eq_true rfl⟩ (fun H1 locs1 hP' hD' hsz hfr hlo => ?_)
  exact kk H1 locs1 la hL hP' ⟨Nat.le_trans hS.1 hsz, fun q q1 q2 => (hfr q (Nat.lt_of_lt_of_le q1 hS.1) (fun z => q2 (hF q z))).trans (hS.2.1 q q1 q2), hlo⟩
theorem lJ_cV0i (X : lX p s m meth c b L xs D g ad) {K : mM} {idx : Nat} {r : Int32} {h' : List mC} (hd : decode code pc = .ok (.invokevirtual idx, 3)) (hm : m_mev K 0) (hk : m_lk RL idx K.1) (hR : m_rm k_L K) (hcl : (vwCl[7]?).map (fun q => q.1) = some K.1.cls) (hcat : (st.map fun v => v.category).sum ≤ 8) (ct : lCt K [] h r h') (kk : lJ p l e s m below meth c b D g ad (pc + 3) ls (.int r :: st) h') : lJ p l e s m below meth c b D g ad pc ls (.ref 0 :: st) h :=
  lJ_cV X hd hm hk hR rfl hcl hcat rfl ct kk
theorem lJ_cV1i (X : lX p s m meth c b L xs D g ad) {K : mM} {idx : Nat} {v1 : Value} {r : Int32} {h' : List mC} (hd : decode code pc = .ok (.invokevirtual idx, 3)) (hm : m_mev K 1) (hk : m_lk RL idx K.1) (hR : m_rm k_L K) (hcl : (vwCl[7]?).map (fun q => q.1) = some K.1.cls) (hcat : (st.map fun v => v.category).sum ≤ 8) (ct : lCt K [v1] h r h') (kk : lJ p l e s m below meth c b D g ad (pc + 3) ls (.int r :: st) h') : lJ p l e s m below meth c b D g ad pc ls (v1 :: .ref 0 :: st) h :=
  lJ_cV X hd hm hk hR rfl hcl hcat rfl ct kk
theorem lJ_cV2i (X : lX p s m meth c b L xs D g ad) {K : mM} {idx : Nat} {v1 v2 : Value} {r : Int32} {h' : List mC} (hd : decode code pc = .ok (.invokevirtual idx, 3)) (hm : m_mev K 2) (hk : m_lk RL idx K.1) (hR : m_rm k_L K) (hcl : (vwCl[7]?).map (fun q => q.1) = some K.1.cls) (hcat : (st.map fun v => v.category).sum ≤ 8) (ct : lCt K [v1, v2] h r h') (kk : lJ p l e s m below meth c b D g ad (pc + 3) ls (.int r :: st) h') : lJ p l e s m below meth c b D g ad pc ls (v2 :: v1 :: .ref 0 :: st) h :=
  lJ_cV X hd hm hk hR rfl hcl hcat rfl ct kk
theorem lJ_cV3i (X : lX p s m meth c b L xs D g ad) {K : mM} {idx : Nat} {v1 v2 v3 : Value} {r : Int32} {h' : List mC} (hd : decode code pc = .ok (.invokevirtual idx, 3)) (hm : m_mev K 3) (hk : m_lk RL idx K.1) (hR : m_rm k_L K) (hcl : (vwCl[7]?).map (fun q => q.1) = some K.1.cls) (hcat : (st.map fun v => v.category).sum ≤ 8) (ct : lCt K [v1, v2, v3] h r h') (kk : lJ p l e s m below meth c b D g ad (pc + 3) ls (.int r :: st) h') : lJ p l e s m below meth c b D g ad pc ls (v3 :: v2 :: v1 :: .ref 0 :: st) h :=
  lJ_cV X hd hm hk hR rfl hcl hcat rfl ct kk
theorem lJ_cV4i (X : lX p s m meth c b L xs D g ad) {K : mM} {idx : Nat} {v1 v2 v3 v4 : Value} {r : Int32} {h' : List mC} (hd : decode code pc = .ok (.invokevirtual idx, 3)) (hm : m_mev K 4) (hk : m_lk RL idx K.1) (hR : m_rm k_L K) (hcl : (vwCl[7]?).map (fun q => q.1) = some K.1.cls) (hcat : (st.map fun v => v.category).sum ≤ 8) (ct : lCt K [v1, v2, v3, v4] h r h') (kk : lJ p l e s m below meth c b D g ad (pc + 3) ls (.int r :: st) h') : lJ p l e s m below meth c b D g ad pc ls (v4 :: v3 :: v2 :: v1 :: .ref 0 :: st) h :=
  lJ_cV X hd hm hk hR rfl hcl hcat rfl ct kk
theorem lJ_cV5i (X : lX p s m meth c b L xs D g ad) {K : mM} {idx : Nat} {v1 v2 v3 v4 v5 : Value} {r : Int32} {h' : List mC} (hd : decode code pc = .ok (.invokevirtual idx, 3)) (hm : m_mev K 5) (hk : m_lk RL idx K.1) (hR : m_rm k_L K) (hcl : (vwCl[7]?).map (fun q => q.1) = some K.1.cls) (hcat : (st.map fun v => v.category).sum ≤ 8) (ct : lCt K [v1, v2, v3, v4, v5] h r h') (kk : lJ p l e s m below meth c b D g ad (pc + 3) ls (.int r :: st) h') : lJ p l e s m below meth c b D g ad pc ls (v5 :: v4 :: v3 :: v2 :: v1 :: .ref 0 :: st) h :=
  lJ_cV X hd hm hk hR rfl hcl hcat rfl ct kk
/-- the law's holds, on the object -/
theorem lJ_cS1i (X : lX p s m meth c b L xs D g ad) {K : mM} {idx : Nat} {r : Int32} {h' : List mC} (hd : decode code pc = .ok (.invokestatic idx, 3)) (hm : m_mes K 1) (hk : m_lk RL idx K.1) (hR : m_rm k_L K) (hcat : (st.map fun v => v.category).sum ≤ 8) (ct0 : h.length = 29 ∧ mCt K [.ref 0] h (some (.int r)) h') (kk : lJ p l e s m below meth c b D g ad (pc + 3) ls (.int r :: st) h') : lJ p l e s m below meth c b D g ad pc ls (.ref 0 :: st) h := by
  obtain ⟨C0, -, hK, i1, a1, -⟩ := X
  obtain ⟨hl1, ct⟩ := ct0
  have C := lw_cx C0
  intro H locs la hL hP hS
  obtain ⟨⟨m1, m2, m3, m4, m5, m6⟩, m7⟩ := hm
  have hF : ∀ q : Nat, va_A (m_w g ad h) H.size q → s.heap.size ≤ q := by
    intro q hq
    rcases hq with ⟨k, e0, hq⟩ | hq
    · obtain ⟨z1, z2⟩ := m_w_ad hq
      have z3 : q = ad k := z2
      rw [z3]
      exact a1 k (by omega)
    · exact Nat.le_trans hS.1 hq
  have hD : va_D (fun _ => True) (m_w g ad h) := m_w_D (fun i j hi hj => i1 i j (by omega) (by omega)) (fun _ _ => trivial)
  have hn2 : ∀ sig, parseMethodDescriptor K.1.desc = some sig → 1 = sig.parameters.length := fun sig h => by
    rw [h] at m4
    exact (Option.some.inj m4).symm
  have hpre : PreS s H (va_Pc ([Value.ref 0].map (m_v ad)) (fun U => U.heap.size = H.size ∧ va_P D vwCl (m_w g ad h) U.heap ∧ va_K D vwCl (m_tys g) U ∧ va_D (fun _ => True) (m_w g ad h))) ([Value.ref 0].map (m_v ad)) :=
    ⟨m_blind, fun U hU hW => ⟨rfl, by rw [hU], by rw [hU]; exact hP, va_K.moved hW.alike hK, hD⟩⟩
  have hstk : (Value.ref 0 :: st).map (m_v ad) = ([Value.ref 0].map (m_v ad)).reverse ++ st.map (m_v ad) := rfl
  rw [hstk]
  rcases hk with hk | ⟨host, hk⟩
  · refine l_goes (va_runS ⟨C.1, C.2.1, C.2.2.2.1, C.2.2.2.2.1, C.2.2.2.2.2.1⟩ (ct l D g ad H.size) (n := 1) ⟨⟨m5, m6, hR.1, hR.2, m_keep C m1, List.mem_cons_self, m_cx_in C m1, m_cx_in C m2, m3, hn2, m_cx_in C hk⟩, m_cx_in C m7⟩ hpre rfl rfl hL.1 rfl (lv_room (by rw [m_cats]; exact hcat)) hd ⟨Nat.le_of_ble_eq_true rfl, Nat.le_of_ble_eq_true rfl⟩) hF hS.2.2 (fun H1 locs1 hP' hD' hsz hfr hlo => ?_)
    exact kk H1 locs1 la hL hP' ⟨Nat.le_trans hS.1 hsz, fun q q1 q2 => (hfr q (Nat.lt_of_lt_of_le q1 hS.1) (fun z => q2 (hF q z))).trans (hS.2.1 q q1 q2), hlo⟩
  · refine l_goes (va_runSN ⟨C.1, C.2.1, C.2.2.2.1, C.2.2.2.2.1, C.2.2.2.2.2.1⟩ (ct l D g ad H.size) (n := 1) ⟨⟨⟨m5, m6, hR.1, hR.2, m_keep C m1, List.mem_cons_self⟩, m_cx_in C m1, m_cx_in C m2, m3, hn2, m_cx_in C hk⟩, m_cx_in C m7, trivial⟩ hpre rfl rfl hL.1 rfl (lv_room (by rw [m_cats]; exact hcat)) hd ⟨Nat.le_of_ble_eq_true rfl, Nat.le_of_ble_eq_true rfl⟩) hF hS.2.2 (fun H1 locs1 hP' hD' hsz hfr hlo => ?_)
    exact kk H1 locs1 la hL hP' ⟨Nat.le_trans hS.1 hsz, fun q q1 q2 => (hfr q (Nat.lt_of_lt_of_le q1 hS.1) (fun z => q2 (hF q z))).trans (hS.2.1 q q1 q2), hlo⟩
end LAW
theorem w_c7 : m_in (.constant RL 7 15485959) := ⟨List.mem_of_getElem? (i := 519) (by decide +kernel), rfl⟩
theorem w_c8 : m_in (.constant RL 8 2147483647) := ⟨List.mem_of_getElem? (i := 520) (by decide +kernel), rfl⟩
/-- the law's cell: it reads the script alone -/
def cellQ (sz : Nat) (v : Int32) : Array Value → State → Outcome → State → Prop := fun _ st oc t => oc = .returned (some (.int v)) ∧ va_F (fun q : Nat => sz ≤ q) st t
theorem C_cell {l : Launch} {b L : Nat} {xs : Nat → Int32} {sz k : Nat} (hL : L ≤ 260) (hk : k < 100) : Met l yL_cell (m_ws k_L_cell) k_L_cell.2.2.2.2 (va_Pc [.ref b, .int (nI k)] (fun U => U.heap.size = sz ∧ b < sz ∧ va_X b L xs U U.heap)) (cellQ sz (cv L xs k)) 0 0 (fun q : Nat => sz ≤ q) := by
  refine Met_ofWF (ws' := m_tbl) (cc := cL_cell) (maxL := 2) (ret := some .int) (plainFor_of_name rfl) rfl ?_
  intro p e s m args below meth c s₁ B hml hv
  obtain ⟨rfl, hsz, hb, hX⟩ := hv
  subst hsz
  have hts : ∀ w ∈ m_ws k_L_cell, w.before _ s = true := atoms_spec (ws := m_ws k_L_cell) B.pre
  have hx := B.exec
  have hbd := B.bytes
  have hown : s.vm.findClass RL = some m.cls := findClass_of_methodNamed B.named
  have h7 : (Jvm.Cond.constant RL 7 15485959).before _ s = true := hts _ (List.mem_cons_of_mem _ (m_in_tbl w_c7))
  have h8 : (Jvm.Cond.constant RL 8 2147483647).before _ s = true := hts _ (List.mem_cons_of_mem _ (m_in_tbl w_c8))
  rw [lg_entry_eq]
  have hl := lv_entry ([.ref b, .int (nI k)]) (n := 2) (Nat.le_of_ble_eq_true rfl)
  generalize (lg_sl ([.ref b, .int (nI k)]) ++ List.replicate (2 - (lg_sl ([.ref b, .int (nI k)])).length) Slot.unset).toArray = la at hl ⊢
  have hl : lv_has la 2 [(0, .ref b), (1, .int (nI k))] := hl
  have hS : va_S (fun q : Nat => s.heap.size ≤ q) s.heap s.heap [] := va_S.rf
  have hnA : ¬ (fun q : Nat => s.heap.size ≤ q) b := Nat.not_le.mpr hb
  have fin : ∀ (v : Int32), cv L xs k = v &&& 2147483647 → W p l e k_L_cell.2.2.2.2 s m #[Value.ref b, .int (nI k)] below meth c s.heap [] 0 0 (MQ below (cellQ s.heap.size (cv L xs k)) #[Value.ref b, .int (nI k)] s 0 0 (fun q : Nat => s.heap.size ≤ q)) (F0 m 19 la [.int v]) := by
    intro v ev
    refine lv_ldc hx hbd hown h8 dL_cell_19 ?_
    refine lv_iand hx hbd dL_cell_21 ?_
    rw [← ev]
    exact W.iret (v := cv L xs k) hx hbd B.returns (fun t ht hW => ⟨rfl, hS.F ht⟩) hS.2.2 dL_cell_22 B.notSynchronized
  refine lv_iload_n hx hbd dL_cell_0 rfl (lv_at hl 1 rfl) ?_
  refine lv_aload_n hx hbd dL_cell_1 rfl (lv_at hl 0 rfl) ?_
  refine va_slen hx hbd hX hb hnA hS dL_cell_2 ?_
  refine lv_icmp_ge (tgt := 12) hx hbd dL_cell_3 rfl (fun q => ?_) (fun q => ?_)
  · refine lv_ldc hx hbd hown h7 dL_cell_12 ?_
    refine lv_iload_n hx hbd dL_cell_14 rfl (lv_at hl 1 rfl) ?_
    refine lv_imul hx hbd dL_cell_15 ?_
    refine lv_bipush (v := 109) hx hbd dL_cell_16 rfl ?_
    refine lv_iadd hx hbd dL_cell_18 ?_
    refine fin _ ?_
    unfold cv
    rw [if_neg (Int32.not_lt.mpr q)]
  · have hlt : k < L := by
      have q2 : ¬ nI L ≤ nI k := q
      rw [nI_leI (by omega) (by omega)] at q2
      omega
    refine lv_aload_n hx hbd dL_cell_6 rfl (lv_at hl 0 rfl) ?_
    refine lv_iload_n hx hbd dL_cell_7 rfl (lv_at hl 1 rfl) ?_
    refine va_sld hx hbd hX hb hnA hS (vp_in_nI hlt (by omega)) dL_cell_8 ?_
    rw [nI_clamp (by omega)]
    refine lv_goto (tgt := 19) hx hbd dL_cell_9 rfl ?_
    refine fin _ ?_
    unfold cv
    rw [if_pos (Int32.not_le.mp q)]
theorem c_blind {b L sz : Nat} {xs : Nat → Int32} {av : List Value} : FrameBlind (va_Pc av (fun U => U.heap.size = sz ∧ b < sz ∧ va_X b L xs U U.heap)) :=
  fun a U gg mk q => by
    obtain ⟨q0, q1, q2, q3⟩ := q
    exact ⟨q0, q1, q2, va_X.moved (u := U) (U := U.calling gg mk a) (Vm.Alike.refl U.vm) q3⟩
section LAWC
variable {p : Program} {l : Launch} {e : Env} {s : State} {m : MethodId} {below : List Frame} {meth : Method} {c : Code} {b L : Nat} {xs : Nat → Int32} {D : va_G} {g : Nat → ClassId} {ad : Nat → Nat} {pc : Nat} {ls st : List Value} {h : List mC}
/-- a number out of the script -/
theorem lJ_cS2i (X : lX p s m meth c b L xs D g ad) {idx k : Nat} {i v : Int32} (hd : decode code pc = .ok (.invokestatic idx, 3)) (hm : m_mes k_L_cell 2) (hk : m_lk RL idx k_L_cell.1) (hR : m_rm k_L k_L_cell) (hcat : (st.map fun v => v.category).sum ≤ 8) (ct : i = nI k ∧ k < 100 ∧ cv L xs k = v) (kk : lJ p l e s m below meth c b D g ad (pc + 3) ls (.int v :: st) h) : lJ p l e s m below meth c b D g ad pc ls (.int i :: .ref 29 :: st) h := by
  obtain ⟨C0, hL, hK, i1, a1, a29⟩ := X
  obtain ⟨rfl, hk1, rfl⟩ := ct
  have C := lw_cx C0
  intro H locs la hLv hP hS
  obtain ⟨⟨m1, m2, m3, m4, m5, m6⟩, m7⟩ := hm
  have hn2 : ∀ sig, parseMethodDescriptor k_L_cell.1.desc = some sig → 2 = sig.parameters.length := fun sig h => by
    rw [h] at m4
    exact (Option.some.inj m4).symm
  have hb : b < s.heap.size := C0.2.2.2.2.2.2.2.1
  have hXs : va_X b L xs s H := va_X.kept C0.2.2.2.2.2.2.1 (hS.2.1 b hb (Nat.not_le.mpr hb))
  have hpre : PreS s H (va_Pc [.ref b, .int (nI k)] (fun U => U.heap.size = H.size ∧ b < H.size ∧ va_X b L xs U U.heap)) [.ref b, .int (nI k)] :=
    ⟨c_blind, fun U hU hW => ⟨rfl, by rw [hU], Nat.lt_of_lt_of_le hb hS.1, by rw [hU]; exact va_X.moved hW.alike hXs⟩⟩
  have hstk : (Value.int (nI k) :: .ref 29 :: st).map (m_v ad) = ([.ref b, .int (nI k)] : List Value).reverse ++ st.map (m_v ad) := by
    show Value.int (nI k) :: .ref (ad 29) :: st.map (m_v ad) = _
    rw [a29]
    rfl
  rw [hstk]
  rcases hk with hk | ⟨host, hk⟩
  · have hr := va_runS (g := F0 m pc la (([.ref b, .int (nI k)] : List Value).reverse ++ st.map (m_v ad))) (H := H) (locs := locs) (cells := 29) (slots := 1212) (below := below) (meth := meth) (c := c) (e := e) (R := room_1) ⟨C.1, C.2.1, C.2.2.2.1, C.2.2.2.2.1, C.2.2.2.2.2.1⟩ (C_cell (l := l) (b := b) (xs := xs) (sz := H.size) hL hk1) (n := 2) ⟨⟨m5, m6, hR.1, hR.2, m_keep C m1, List.mem_cons_self, m_cx_in C m1, m_cx_in C m2, m3, hn2, m_cx_in C hk⟩, m_cx_in C m7⟩ hpre rfl rfl hLv.1 rfl (lv_room (by rw [m_cats]; exact hcat)) hd ⟨Nat.le_of_ble_eq_true rfl, Nat.le_of_ble_eq_true rfl⟩
    intro T hT X
    obtain ⟨v0, st₀, t, T', L0, h0, X', hL0, e1, e2, ⟨hv, hz, hkp⟩, stp⟩ := hr T hT X
    cases hv
    rw [h0] at hz hkp
    have hfr : ∀ q : Nat, q < H.size → T'.heap[q]? = H[q]? := fun q hq => by rw [e1]; exact hkp q hq (Nat.not_le.mpr hq)
    obtain ⟨t2, y1, y2⟩ := kk T'.heap (locs ++ L0) la hLv (hP.kept (fun k q hq => hfr q.1 (hP k q hq).lt)) ⟨Nat.le_trans hS.1 (by rw [e1]; exact hz), fun q q1 q2 => (hfr q (Nat.lt_of_lt_of_le q1 hS.1)).trans (hS.2.1 q q1 q2), fun q hq => (List.mem_append.mp hq).elim (hS.2.2 q) (fun z => Nat.le_trans hS.1 (hL0 q z))⟩ T' rfl X'
    exact ⟨t2, stp t2 y1, y2⟩
  · have hr := va_runSN (g := F0 m pc la (([.ref b, .int (nI k)] : List Value).reverse ++ st.map (m_v ad))) (H := H) (locs := locs) (cells := 29) (slots := 1212) (below := below) (meth := meth) (c := c) (e := e) (R := room_1) ⟨C.1, C.2.1, C.2.2.2.1, C.2.2.2.2.1, C.2.2.2.2.2.1⟩ (C_cell (l := l) (b := b) (xs := xs) (sz := H.size) hL hk1) (n := 2) ⟨⟨⟨m5, m6, hR.1, hR.2, m_keep C m1, List.mem_cons_self⟩, m_cx_in C m1, m_cx_in C m2, m3, hn2, m_cx_in C hk⟩, m_cx_in C m7, trivial⟩ hpre rfl rfl hLv.1 rfl (lv_room (by rw [m_cats]; exact hcat)) hd ⟨Nat.le_of_ble_eq_true rfl, Nat.le_of_ble_eq_true rfl⟩
    intro T hT X
    obtain ⟨v0, st₀, t, T', L0, h0, X', hL0, e1, e2, ⟨hv, hz, hkp⟩, stp⟩ := hr T hT X
    cases hv
    rw [h0] at hz hkp
    have hfr : ∀ q : Nat, q < H.size → T'.heap[q]? = H[q]? := fun q hq => by rw [e1]; exact hkp q hq (Nat.not_le.mpr hq)
    obtain ⟨t2, y1, y2⟩ := kk T'.heap (locs ++ L0) la hLv (hP.kept (fun k q hq => hfr q.1 (hP k q hq).lt)) ⟨Nat.le_trans hS.1 (by rw [e1]; exact hz), fun q q1 q2 => (hfr q (Nat.lt_of_lt_of_le q1 hS.1)).trans (hS.2.1 q q1 q2), fun q hq => (List.mem_append.mp hq).elim (hS.2.2 q) (fun z => Nat.le_trans hS.1 (hL0 q z))⟩ T' rfl X'
    exact ⟨t2, stp t2 y1, y2⟩
/-- the law's end -/
theorem lJ_end (X : lX p s m meth c b L xs D g ad) (hd : decode code pc = .ok (.ireturn, 1)) : lJ p l e s m below meth c b D g ad pc ls [.int 1] h := by
  obtain ⟨C0, -, -, -, a1, -⟩ := X
  intro H locs la hL hP hS
  exact va_forget (fun q hq => hS.2.2 q hq) (W.widen (k := 600000) (n := 7302250) (Nat.le_of_ble_eq_true rfl) (Nat.le_of_ble_eq_true rfl) (lw_ret C0.1 C0.2.1 C0.2.2.1 C0.2.2.2.2.2.2.2.2.1 hd))
end LAWC
