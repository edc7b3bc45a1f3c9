/-! A METHOD'S RUN WITHOUT ITS SURROUNDINGS. A heap is a list of cells, a reference in it the number of a cell (m_v, m_e, m_w: what stands at the real addresses ad). mCt: a method's contract, from such a heap and arguments to an answer and such a heap. mJ: the same from a place within a method. One rule an instruction. -/
abbrev mM : Type := MethodName × ByteArray × Nat × Option FieldType × Room
abbrev mC : Type := (Nat × Nat × (Nat → Int32)) ⊕ (Nat × List Value)
def m_okW : Cond → Bool
  | .fieldLinkNest .. => true
  | .methodLinkNest .. => true
  | w => goodWord w
theorem m_okW_keep {w : Cond} (h : m_okW w = true) {s U : State} {a a' : Array Value} (hW : s.WarmedH U.vm) (hb : w.before a s = true) : w.before a' U = true := by
  cases w <;> first
    | exact va_Nw.use rfl (va_Nw.warmF hW (va_Nw.of rfl hb))
    | exact va_Nw.use rfl (va_Nw.warmM hW (va_Nw.of rfl hb))
    | exact word_at hW (good_of_word h) hb
def m_tbl : List Cond := lw_tbl.filter m_okW
def m_in (w : Cond) : Prop := w ∈ lw_tbl ∧ m_okW w = true
theorem m_in_tbl {w : Cond} (h : m_in w) : w ∈ m_tbl := List.mem_filter.mpr h
def m_ws (M : mM) : List Cond := .code M.1 M.2.1 M.2.2.1 M.2.2.2.1 :: m_tbl
def m_v (ad : Nat → Nat) : Value → Value
  | .ref i => .ref (ad i)
  | v => v
def m_e (g : Nat → ClassId) (ad : Nat → Nat) : mC → va_E
  | .inl a => .inl (g a.1, a.2.1, .inl a.2.2)
  | .inr o => .inr (o.1, o.2.map (m_v ad))
def m_w (g : Nat → ClassId) (ad : Nat → Nat) (h : List mC) : va_W := h.mapIdx (fun i c => (ad i, m_e g ad c))
abbrev m_tys (g : Nat → ClassId) : List (ClassId × FieldType) := [(g 0, .int)]
theorem m_w_at {g : Nat → ClassId} {ad : Nat → Nat} {h : List mC} {k : Nat} {c : mC} (hk : h[k]? = some c) : (m_w g ad h)[k]? = some (ad k, m_e g ad c) := by
  unfold m_w
  rw [List.getElem?_mapIdx, hk]
  rfl
theorem m_w_set {g : Nat → ClassId} {ad : Nat → Nat} {h : List mC} {k : Nat} {c : mC} : (m_w g ad h).set k (ad k, m_e g ad c) = m_w g ad (h.set k c) := by
  unfold m_w
  apply List.ext_getElem?
  intro i
  simp only [List.getElem?_set, List.getElem?_mapIdx, List.length_mapIdx]
  by_cases hik : k = i
  · subst hik
    by_cases hl : k < h.length
    · simp [hl]
    · simp [hl]
  · simp [hik]
theorem m_cat (ad : Nat → Nat) (v : Value) : (m_v ad v).category = v.category := by cases v <;> rfl
/-- what a method's frame holds still -/
def m_cx (M : mM) (p : Program) (s : State) (m : MethodId) (args : Array Value) (meth : Method) (c : Code) : Prop :=
  p.tables.exec = Jvm.exec ∧ c.code = M.2.1 ∧ meth.sig.returnType = M.2.2.2.1 ∧ c.maxLocals = M.2.2.1 ∧ s.vm.findClass M.1.cls = some m.cls ∧ (∀ w ∈ m_tbl, w.before args s = true) ∧ meth.locks = false
theorem m_cx_in {M : mM} {p : Program} {s : State} {m : MethodId} {args : Array Value} {meth : Method} {c : Code} (C : m_cx M p s m args meth c) {w : Cond} (h : m_in w) : w.before args s = true := C.2.2.2.2.2.1 w (m_in_tbl h)
/-- the locals: .null stands where nothing is known -/
def m_lv (ad : Nat → Nat) (la : Array Slot) (nL : Nat) (ls : List Value) : Prop := la.size = nL ∧ lv_wf la ∧ ∀ (i : Nat) (v : Value), ls[i]? = some v → v ≠ .null → v.category = 1 ∧ la[i]? = some (.val (m_v ad v))
def m_al (ad : Nat → Nat) : Nat → List Value → List (Nat × Value)
  | _, [] => []
  | k, v :: r => match v with
    | .null => m_al ad (k + 1) r
    | v => (k, m_v ad v) :: m_al ad (k + 1) r
theorem m_al_of {ad : Nat → Nat} : ∀ {ls : List Value} {k i : Nat} {v : Value}, ls[i]? = some v → v ≠ .null → (k + i, m_v ad v) ∈ m_al ad k ls
  | [], _, _, _, h, _ => by simp at h
  | w :: r, k, 0, v, h, hn => by
    simp at h
    subst h
    cases w <;> first | exact absurd rfl hn | exact List.mem_cons_self
  | w :: r, k, i + 1, v, h, hn => by
    simp at h
    have h1 := m_al_of (ad := ad) (k := k + 1) h hn
    rw [show k + 1 + i = k + (i + 1) by omega] at h1
    cases w <;> first | exact h1 | exact List.mem_cons_of_mem _ h1
theorem m_al_in {ad : Nat → Nat} : ∀ {ls : List Value} {k : Nat} {q : Nat × Value}, q ∈ m_al ad k ls → ∃ i v, q = (k + i, m_v ad v) ∧ ls[i]? = some v ∧ v ≠ .null
  | [], _, _, h => by cases h
  | w :: r, k, q, h => by
    have key : q ∈ m_al ad (k + 1) r → ∃ i v, q = (k + i, m_v ad v) ∧ (w :: r)[i]? = some v ∧ v ≠ .null := by
      intro h1
      obtain ⟨i, v, e, h2, h3⟩ := m_al_in h1
      exact ⟨i + 1, v, by rw [e]; congr 1; omega, by simpa using h2, h3⟩
    by_cases hw : w = .null
    · subst hw
      exact key h
    · have h' : q ∈ (k, m_v ad w) :: m_al ad (k + 1) r := by cases w <;> first | exact absurd rfl hw | exact h
      rcases List.mem_cons.mp h' with rfl | h1
      · exact ⟨0, w, rfl, rfl, hw⟩
      · exact key h1
theorem m_lv_has {ad : Nat → Nat} {la : Array Slot} {nL : Nat} {ls : List Value} (h : m_lv ad la nL ls) : lv_has la nL (m_al ad 0 ls) := by
  refine ⟨h.1, h.2.1, fun q hq => ?_⟩
  obtain ⟨i, v, rfl, h2, h3⟩ := m_al_in hq
  simpa using (h.2.2 i v h2 h3).2
theorem m_lv_set {ad : Nat → Nat} {la : Array Slot} {nL i : Nat} {ls : List Value} {v w : Value} {la' : Array Slot} (h : m_lv ad la nL ls) (hv : m_v ad v = w) (hc : v.category = 1) (hn : i < nL)
    (h' : lv_has la' nL ((i, w) :: (m_al ad 0 ls).filter (fun q => !(q.1 == i) && !(q.1 + 1 == i && q.2.category == 2)))) : m_lv ad la' nL (ls.set i v) := by
  refine ⟨h'.1, h'.2.1, fun j x hj hx => ?_⟩
  by_cases hij : i = j
  · subst hij
    have hxe : x = v := by
      rw [List.getElem?_set] at hj
      by_cases hl : i < ls.length
      · simp [hl] at hj; exact hj.symm
      · simp [hl] at hj
    subst hxe
    refine ⟨hc, ?_⟩
    rw [hv]
    exact h'.2.2 (i, w) List.mem_cons_self
  · rw [List.getElem?_set_ne hij] at hj
    obtain ⟨c1, -⟩ := h.2.2 j x hj hx
    refine ⟨c1, ?_⟩
    have h1 := m_al_of (ad := ad) (k := 0) hj hx
    rw [Nat.zero_add] at h1
    refine h'.2.2 (j, m_v ad x) (List.mem_cons_of_mem _ (List.mem_filter.mpr ⟨h1, ?_⟩))
    simp [m_cat, c1, Ne.symm hij]
def m_Q (D : va_G) (g : Nat → ClassId) (ad : Nat → Nat) (A : Nat → Prop) (r : Option Value) (h : List mC) : Array Value → State → Outcome → State → Prop := fun _ st oc t =>
  (oc = .returned (r.map (m_v ad)) ∧ va_P D vwCl (m_w g ad h) t.heap ∧ va_D A (m_w g ad h)) ∧ va_F A st t
def mJ (M : mM) (pc : Nat) (ls st : List Value) (h : List mC) (r : Option Value) (h' : List mC) : Prop :=
  ∀ (p : Program) (l : Launch) (e : Env) (s : State) (m : MethodId) (args : Array Value) (below : List Frame) (meth : Method) (c : Code) (D : va_G) (g : Nat → ClassId) (ad : Nat → Nat) (A : Nat → Prop) (H : Heap) (locs : List Loc) (la : Array Slot),
    m_cx M p s m args meth c → va_K D vwCl (m_tys g) s → (∀ q : Nat, s.heap.size ≤ q → A q) → m_lv ad la M.2.2.1 ls → va_P D vwCl (m_w g ad h) H → va_D A (m_w g ad h) → va_S A s.heap H locs →
    W p l e M.2.2.2.2 s m args below meth c H locs 0 0 (MQ below (m_Q D g ad A r h') args s 0 0 A) (F0 m pc la (st.map (m_v ad)))
def mCt (M : mM) (av : List Value) (h : List mC) (r : Option Value) (h' : List mC) : Prop :=
  ∀ (l : Launch) (D : va_G) (g : Nat → ClassId) (ad : Nat → Nat) (sz : Nat), Met l M.1 (m_ws M) M.2.2.2.2 (va_Pc (av.map (m_v ad)) (fun U => U.heap.size = sz ∧ va_P D vwCl (m_w g ad h) U.heap ∧ va_K D vwCl (m_tys g) U ∧ va_D (fun _ => True) (m_w g ad h))) (m_Q D g ad (va_A (m_w g ad h) sz) r h') 0 0 (va_A (m_w g ad h) sz)
theorem m_entry {ad : Nat → Nat} {vs : List Value} (hc : ∀ v ∈ vs, v.category = 1) {n : Nat} (hn : vs.length ≤ n) : m_lv ad ((lg_sl (vs.map (m_v ad)) ++ List.replicate (n - (lg_sl (vs.map (m_v ad))).length) Slot.unset).toArray) n (vs ++ List.replicate (n - vs.length) .null) := by
  have e : lg_sl (vs.map (m_v ad)) = vs.map (fun v => Slot.val (m_v ad v)) := by
    clear hn
    induction vs with
    | nil => rfl
    | cons v r ih =>
      have h1 : (m_v ad v).category = 1 := by rw [m_cat]; exact hc v List.mem_cons_self
      have h2 := ih (fun w hw => hc w (List.mem_cons_of_mem _ hw))
      simp only [lg_sl, List.map_cons, List.flatMap_cons] at h2 ⊢
      rw [h2, h1]
      rfl
  have hl := lv_entry (vs.map (m_v ad)) (n := n) (by rw [e, List.length_map]; exact hn)
  refine ⟨hl.1, hl.2.1, fun i v hi hv => ?_⟩
  by_cases hlt : i < vs.length
  · rw [List.getElem?_append_left hlt] at hi
    refine ⟨hc v (List.mem_of_getElem? hi), ?_⟩
    rw [e]
    obtain ⟨_, hx⟩ := List.getElem?_eq_some_iff.mp hi
    simp [List.getElem?_append, hlt, hx]
  · rw [List.getElem?_append_right (by omega), List.getElem?_replicate] at hi
    split at hi
    · cases hi; exact absurd rfl hv
    · cases hi
theorem Met_ofWF {l : Launch} {y : MethodName} {ws ws' : List Cond} {rm : Room} {Pc : Array Value → State → Prop} {Qc : Array Value → State → Outcome → State → Prop} {mc ms : Nat} {free : Addr → Prop} {cc : ByteArray} {maxL : Nat} {ret : Option FieldType}
    (hy : plainFor y = true) (hw : ws = Cond.code y cc maxL ret :: ws')
    (body : ∀ p e s m args below meth c s₁, BodyLoose p l y (headSpec ws rm) cc maxL ret e s m args below meth c s₁ → c.maxLocals = maxL → Pc args s →
      W p l e (headSpec ws rm).room s m args below meth c s.heap [] 0 0 (MQ below Qc args s mc ms free) (entryFrame m args maxL)) : Met l y ws rm Pc Qc mc ms free := by
  refine MetFree.of_bodySF (code := cc) (maxLocals := maxL) (ret := ret) hy ?_ ?_
  · intro args s m h hn
    obtain ⟨meth, c, h1, h2, h3, h4, h5, h6, -, -⟩ := Cond.code_spec hn (atoms_spec (ws := ws) h _ (by rw [hw]; exact List.mem_cons_self))
    exact ⟨meth, c, h1, h2, h3, h4, h5, h6⟩
  · intro p e s m args below meth c s₁ B hml hP _
    have hh0 : s₁.heap = s.heap := by rw [B.state]; rfl
    obtain ⟨t, a1, o, b1, b2, b3⟩ := body p e s m args below meth c s₁ B hml hP s₁ hh0 (Stand.of_body B)
    exact ⟨t, o, a1, b1, b2, ⟨b3.1, b3.2⟩⟩
theorem mCt_intro {M : mM} {av : List Value} {h h' : List mC} {r : Option Value} (hy : plainFor M.1 = true) (hlen : av.length ≤ M.2.2.1) (hc : ∀ v ∈ av, v.category = 1) {ls : List Value} (hls : av ++ List.replicate (M.2.2.1 - av.length) .null = ls) (k : mJ M 0 ls [] h r h') : mCt M av h r h' := by
  subst hls
  intro l D g ad sz
  refine Met_ofWF (ws' := m_tbl) (cc := M.2.1) (maxL := M.2.2.1) (ret := M.2.2.2.1) hy rfl ?_
  intro p e s m args below meth c s₁ B hml hv
  obtain ⟨rfl, hsz, hP, hK, hD0⟩ := hv
  subst hsz
  have hts : ∀ w ∈ m_ws M, w.before _ s = true := atoms_spec (ws := m_ws M) B.pre
  rw [lg_entry_eq]
  exact k p l e s m _ below meth c D g ad (va_A (m_w g ad h) s.heap.size) s.heap [] _ ⟨B.exec, B.bytes, B.returns, hml, findClass_of_methodNamed B.named, fun w hw => hts w (List.mem_cons_of_mem _ hw), B.notSynchronized⟩ hK (fun q hq => Or.inr hq) (m_entry hc hlen) hP hD0.self va_S.rf
section MROWS
variable {M : mM} {pc : Nat} {ls st : List Value} {h h' : List mC} {r : Option Value}
theorem mJ_here {pc2 : Nat} (e : pc2 = pc) (k : mJ M pc ls st h r h') : mJ M pc2 ls st h r h' := e ▸ k
theorem mJ_iconst {n : Int} {v : Int32} (hd : decode M.2.1 pc = .ok (.iconst n, 1)) (hv : Int32.ofInt n = v) (k : mJ M (pc + 1) ls (.int v :: st) h r h') : mJ M pc ls st h r h' := by
  intro p l e s m args below meth c D g ad A H locs la C K hA hL hP hD hS
  exact lv_iconst C.1 C.2.1 hd hv (k p l e s m args below meth c D g ad A H locs la C K hA hL hP hD hS)
theorem mJ_bipush {n : Int} {v : Int32} (hd : decode M.2.1 pc = .ok (.bipush n, 2)) (hv : (Int8.ofInt n).toInt32 = v) (k : mJ M (pc + 2) ls (.int v :: st) h r h') : mJ M pc ls st h r h' := by
  intro p l e s m args below meth c D g ad A H locs la C K hA hL hP hD hS
  exact lv_bipush C.1 C.2.1 hd hv (k p l e s m args below meth c D g ad A H locs la C K hA hL hP hD hS)
theorem mJ_sipush {n : Int} {v : Int32} (hd : decode M.2.1 pc = .ok (.sipush n, 3)) (hv : (Int16.ofInt n).toInt32 = v) (k : mJ M (pc + 3) ls (.int v :: st) h r h') : mJ M pc ls st h r h' := by
  intro p l e s m args below meth c D g ad A H locs la C K hA hL hP hD hS
  exact lv_sipush C.1 C.2.1 hd hv (k p l e s m args below meth c D g ad A H locs la C K hA hL hP hD hS)
theorem mJ_iload_n {i : Fin 4} {x : Int32} (hd : decode M.2.1 pc = .ok (.iload_n i, 1)) (hl : ls[(i : Nat)]? = some (.int x)) (k : mJ M (pc + 1) ls (.int x :: st) h r h') : mJ M pc ls st h r h' := by
  intro p l e s m args below meth c D g ad A H locs la C K hA hL hP hD hS
  exact lv_iload_n C.1 C.2.1 hd rfl (hL.2.2 _ _ hl (fun z => by cases z)).2 (k p l e s m args below meth c D g ad A H locs la C K hA hL hP hD hS)
theorem mJ_iload {i : Nat} {x : Int32} (hd : decode M.2.1 pc = .ok (.iload i, 2)) (hl : ls[i]? = some (.int x)) (k : mJ M (pc + 2) ls (.int x :: st) h r h') : mJ M pc ls st h r h' := by
  intro p l e s m args below meth c D g ad A H locs la C K hA hL hP hD hS
  exact lv_iload C.1 C.2.1 hd (hL.2.2 _ _ hl (fun z => by cases z)).2 (k p l e s m args below meth c D g ad A H locs la C K hA hL hP hD hS)
theorem mJ_aload_n {i : Fin 4} {x : Nat} (hd : decode M.2.1 pc = .ok (.aload_n i, 1)) (hl : ls[(i : Nat)]? = some (.ref x)) (k : mJ M (pc + 1) ls (.ref x :: st) h r h') : mJ M pc ls st h r h' := by
  intro p l e s m args below meth c D g ad A H locs la C K hA hL hP hD hS
  exact lv_aload_n C.1 C.2.1 hd rfl (hL.2.2 _ _ hl (fun z => by cases z)).2 (k p l e s m args below meth c D g ad A H locs la C K hA hL hP hD hS)
theorem mJ_istore_n {i : Fin 4} {x : Int32} (hd : decode M.2.1 pc = .ok (.istore_n i, 1)) (hn : (i : Nat) < M.2.2.1) {ls2 : List Value} (hs : ls.set (i : Nat) (.int x) = ls2) (k : mJ M (pc + 1) ls2 st h r h') : mJ M pc ls (.int x :: st) h r h' := by
  subst hs
  intro p l e s m args below meth c D g ad A H locs la C K hA hL hP hD hS
  exact lv_istore_n C.1 C.2.1 hd rfl (m_lv_has hL) hn rfl (fun la' hl' => k p l e s m args below meth c D g ad A H locs la' C K hA (m_lv_set hL rfl rfl hn hl') hP hD hS)
theorem mJ_istore {i : Nat} {x : Int32} (hd : decode M.2.1 pc = .ok (.istore i, 2)) (hn : i < M.2.2.1) {ls2 : List Value} (hs : ls.set i (.int x) = ls2) (k : mJ M (pc + 2) ls2 st h r h') : mJ M pc ls (.int x :: st) h r h' := by
  subst hs
  intro p l e s m args below meth c D g ad A H locs la C K hA hL hP hD hS
  exact lv_istore C.1 C.2.1 hd (m_lv_has hL) hn rfl (fun la' hl' => k p l e s m args below meth c D g ad A H locs la' C K hA (m_lv_set hL rfl rfl hn hl') hP hD hS)
theorem mJ_iinc {i : Nat} {n : Int} {x v : Int32} (hd : decode M.2.1 pc = .ok (.iinc i n, 3)) (hl : ls[i]? = some (.int x)) (hn : i < M.2.2.1) (hv : x + Int32.ofInt n = v) {ls2 : List Value} (hs : ls.set i (.int v) = ls2) (k : mJ M (pc + 3) ls2 st h r h') : mJ M pc ls st h r h' := by
  subst hs
  intro p l e s m args below meth c D g ad A H locs la C K hA hL hP hD hS
  have hm := m_al_of (ad := ad) (k := 0) hl (fun z => by cases z)
  rw [Nat.zero_add] at hm
  obtain ⟨j, hj⟩ := List.getElem?_of_mem hm
  exact lv_iinc C.1 C.2.1 hd (m_lv_has hL) hj hv hn rfl (fun la' hl' => k p l e s m args below meth c D g ad A H locs la' C K hA (m_lv_set hL rfl rfl hn hl') hP hD hS)
theorem mJ_iadd {x y : Int32} (hd : decode M.2.1 pc = .ok (.iadd, 1)) (k : mJ M (pc + 1) ls (.int (x + y) :: st) h r h') : mJ M pc ls (.int y :: .int x :: st) h r h' := by
  intro p l e s m args below meth c D g ad A H locs la C K hA hL hP hD hS
  exact lv_iadd C.1 C.2.1 hd (k p l e s m args below meth c D g ad A H locs la C K hA hL hP hD hS)
theorem mJ_isub {x y : Int32} (hd : decode M.2.1 pc = .ok (.isub, 1)) (k : mJ M (pc + 1) ls (.int (x - y) :: st) h r h') : mJ M pc ls (.int y :: .int x :: st) h r h' := by
  intro p l e s m args below meth c D g ad A H locs la C K hA hL hP hD hS
  exact lv_isub C.1 C.2.1 hd (k p l e s m args below meth c D g ad A H locs la C K hA hL hP hD hS)
theorem mJ_imul {x y : Int32} (hd : decode M.2.1 pc = .ok (.imul, 1)) (k : mJ M (pc + 1) ls (.int (x * y) :: st) h r h') : mJ M pc ls (.int y :: .int x :: st) h r h' := by
  intro p l e s m args below meth c D g ad A H locs la C K hA hL hP hD hS
  exact lv_imul C.1 C.2.1 hd (k p l e s m args below meth c D g ad A H locs la C K hA hL hP hD hS)
theorem mJ_ixor {x y : Int32} (hd : decode M.2.1 pc = .ok (.ixor, 1)) (k : mJ M (pc + 1) ls (.int (x ^^^ y) :: st) h r h') : mJ M pc ls (.int y :: .int x :: st) h r h' := by
  intro p l e s m args below meth c D g ad A H locs la C K hA hL hP hD hS
  exact lv_ixor C.1 C.2.1 hd (k p l e s m args below meth c D g ad A H locs la C K hA hL hP hD hS)
theorem mJ_idiv {x y : Int32} (hd : decode M.2.1 pc = .ok (.idiv, 1)) (hne : ¬ y = 0) (k : mJ M (pc + 1) ls (.int (x / y) :: st) h r h') : mJ M pc ls (.int y :: .int x :: st) h r h' := by
  intro p l e s m args below meth c D g ad A H locs la C K hA hL hP hD hS
  exact lv_idiv C.1 C.2.1 hd hne (k p l e s m args below meth c D g ad A H locs la C K hA hL hP hD hS)
theorem mJ_irem {x y : Int32} (hd : decode M.2.1 pc = .ok (.irem, 1)) (hne : ¬ y = 0) (k : mJ M (pc + 1) ls (.int (x - x / y * y) :: st) h r h') : mJ M pc ls (.int y :: .int x :: st) h r h' := by
  intro p l e s m args below meth c D g ad A H locs la C K hA hL hP hD hS
  exact lv_irem C.1 C.2.1 hd hne (k p l e s m args below meth c D g ad A H locs la C K hA hL hP hD hS)
theorem mJ_ineg {x : Int32} (hd : decode M.2.1 pc = .ok (.ineg, 1)) (k : mJ M (pc + 1) ls (.int (-x) :: st) h r h') : mJ M pc ls (.int x :: st) h r h' := by
  intro p l e s m args below meth c D g ad A H locs la C K hA hL hP hD hS
  exact lv_ineg C.1 C.2.1 hd (k p l e s m args below meth c D g ad A H locs la C K hA hL hP hD hS)
theorem mJ_i2c {x v : Int32} (hd : decode M.2.1 pc = .ok (.i2c, 1)) (hv : (x.toUInt32 % 65536).toInt32 = v) (k : mJ M (pc + 1) ls (.int v :: st) h r h') : mJ M pc ls (.int x :: st) h r h' := by
  intro p l e s m args below meth c D g ad A H locs la C K hA hL hP hD hS
  exact lv_i2c C.1 C.2.1 hd hv (k p l e s m args below meth c D g ad A H locs la C K hA hL hP hD hS)
theorem mJ_dup {v : Value} (hd : decode M.2.1 pc = .ok (.dup, 1)) (hv : v.category = 1) (k : mJ M (pc + 1) ls (v :: v :: st) h r h') : mJ M pc ls (v :: st) h r h' := by
  intro p l e s m args below meth c D g ad A H locs la C K hA hL hP hD hS
  exact lv_dup C.1 C.2.1 hd ((m_cat ad v).trans hv) (k p l e s m args below meth c D g ad A H locs la C K hA hL hP hD hS)
theorem mJ_dup2 {v w : Value} (hd : decode M.2.1 pc = .ok (.dup2, 1)) (hv : v.category = 1) (hw : w.category = 1) (k : mJ M (pc + 1) ls (v :: w :: v :: w :: st) h r h') : mJ M pc ls (v :: w :: st) h r h' := by
  intro p l e s m args below meth c D g ad A H locs la C K hA hL hP hD hS
  exact lv_dup2_11 C.1 C.2.1 hd ((m_cat ad v).trans hv) ((m_cat ad w).trans hw) (k p l e s m args below meth c D g ad A H locs la C K hA hL hP hD hS)
theorem mJ_pop {v : Value} (hd : decode M.2.1 pc = .ok (.pop, 1)) (hv : v.category = 1) (k : mJ M (pc + 1) ls st h r h') : mJ M pc ls (v :: st) h r h' := by
  intro p l e s m args below meth c D g ad A H locs la C K hA hL hP hD hS
  exact lv_pop C.1 C.2.1 hd ((m_cat ad v).trans hv) (k p l e s m args below meth c D g ad A H locs la C K hA hL hP hD hS)
theorem mJ_goto {off : Int} (tgt : Nat) (hd : decode M.2.1 pc = .ok (.goto off, 3)) (ht : (pc : Int) + off = (tgt : Int)) (k : mJ M tgt ls st h r h') : mJ M pc ls st h r h' := by
  intro p l e s m args below meth c D g ad A H locs la C K hA hL hP hD hS
  exact lv_goto C.1 C.2.1 hd ht (k p l e s m args below meth c D g ad A H locs la C K hA hL hP hD hS)
theorem mJ_if_eq {x : Int32} {off : Int} (tgt : Nat) (hd : decode M.2.1 pc = .ok (.ifCond .eq off, 3)) (ht : (pc : Int) + off = (tgt : Int)) (kt : x = 0 → mJ M tgt ls st h r h') (kf : ¬ x = 0 → mJ M (pc + 3) ls st h r h') : mJ M pc ls (.int x :: st) h r h' := by
  intro p l e s m args below meth c D g ad A H locs la C K hA hL hP hD hS
  exact lv_if_eq C.1 C.2.1 hd ht (fun z => kt z p l e s m args below meth c D g ad A H locs la C K hA hL hP hD hS) (fun z => kf z p l e s m args below meth c D g ad A H locs la C K hA hL hP hD hS)
theorem mJ_if_ne {x : Int32} {off : Int} (tgt : Nat) (hd : decode M.2.1 pc = .ok (.ifCond .ne off, 3)) (ht : (pc : Int) + off = (tgt : Int)) (kt : ¬ x = 0 → mJ M tgt ls st h r h') (kf : x = 0 → mJ M (pc + 3) ls st h r h') : mJ M pc ls (.int x :: st) h r h' := by
  intro p l e s m args below meth c D g ad A H locs la C K hA hL hP hD hS
  exact lv_if_ne C.1 C.2.1 hd ht (fun z => kt z p l e s m args below meth c D g ad A H locs la C K hA hL hP hD hS) (fun z => kf z p l e s m args below meth c D g ad A H locs la C K hA hL hP hD hS)
theorem mJ_if_lt {x : Int32} {off : Int} (tgt : Nat) (hd : decode M.2.1 pc = .ok (.ifCond .lt off, 3)) (ht : (pc : Int) + off = (tgt : Int)) (kt : x < 0 → mJ M tgt ls st h r h') (kf : ¬ x < 0 → mJ M (pc + 3) ls st h r h') : mJ M pc ls (.int x :: st) h r h' := by
  intro p l e s m args below meth c D g ad A H locs la C K hA hL hP hD hS
  exact lv_if_lt C.1 C.2.1 hd ht (fun z => kt z p l e s m args below meth c D g ad A H locs la C K hA hL hP hD hS) (fun z => kf z p l e s m args below meth c D g ad A H locs la C K hA hL hP hD hS)
theorem mJ_if_ge {x : Int32} {off : Int} (tgt : Nat) (hd : decode M.2.1 pc = .ok (.ifCond .ge off, 3)) (ht : (pc : Int) + off = (tgt : Int)) (kt : 0 ≤ x → mJ M tgt ls st h r h') (kf : ¬ 0 ≤ x → mJ M (pc + 3) ls st h r h') : mJ M pc ls (.int x :: st) h r h' := by
  intro p l e s m args below meth c D g ad A H locs la C K hA hL hP hD hS
  exact lv_if_ge C.1 C.2.1 hd ht (fun z => kt z p l e s m args below meth c D g ad A H locs la C K hA hL hP hD hS) (fun z => kf z p l e s m args below meth c D g ad A H locs la C K hA hL hP hD hS)
theorem mJ_if_gt {x : Int32} {off : Int} (tgt : Nat) (hd : decode M.2.1 pc = .ok (.ifCond .gt off, 3)) (ht : (pc : Int) + off = (tgt : Int)) (kt : 0 < x → mJ M tgt ls st h r h') (kf : ¬ 0 < x → mJ M (pc + 3) ls st h r h') : mJ M pc ls (.int x :: st) h r h' := by
  intro p l e s m args below meth c D g ad A H locs la C K hA hL hP hD hS
  exact lv_if_gt C.1 C.2.1 hd ht (fun z => kt z p l e s m args below meth c D g ad A H locs la C K hA hL hP hD hS) (fun z => kf z p l e s m args below meth c D g ad A H locs la C K hA hL hP hD hS)
theorem mJ_if_le {x : Int32} {off : Int} (tgt : Nat) (hd : decode M.2.1 pc = .ok (.ifCond .le off, 3)) (ht : (pc : Int) + off = (tgt : Int)) (kt : x ≤ 0 → mJ M tgt ls st h r h') (kf : ¬ x ≤ 0 → mJ M (pc + 3) ls st h r h') : mJ M pc ls (.int x :: st) h r h' := by
  intro p l e s m args below meth c D g ad A H locs la C K hA hL hP hD hS
  exact lv_if_le C.1 C.2.1 hd ht (fun z => kt z p l e s m args below meth c D g ad A H locs la C K hA hL hP hD hS) (fun z => kf z p l e s m args below meth c D g ad A H locs la C K hA hL hP hD hS)
theorem mJ_icmp_eq {x y : Int32} {off : Int} (tgt : Nat) (hd : decode M.2.1 pc = .ok (.if_icmp .eq off, 3)) (ht : (pc : Int) + off = (tgt : Int)) (kt : x = y → mJ M tgt ls st h r h') (kf : ¬ x = y → mJ M (pc + 3) ls st h r h') : mJ M pc ls (.int y :: .int x :: st) h r h' := by
  intro p l e s m args below meth c D g ad A H locs la C K hA hL hP hD hS
  exact lv_icmp_eq C.1 C.2.1 hd ht (fun z => kt z p l e s m args below meth c D g ad A H locs la C K hA hL hP hD hS) (fun z => kf z p l e s m args below meth c D g ad A H locs la C K hA hL hP hD hS)
theorem mJ_icmp_ne {x y : Int32} {off : Int} (tgt : Nat) (hd : decode M.2.1 pc = .ok (.if_icmp .ne off, 3)) (ht : (pc : Int) + off = (tgt : Int)) (kt : ¬ x = y → mJ M tgt ls st h r h') (kf : x = y → mJ M (pc + 3) ls st h r h') : mJ M pc ls (.int y :: .int x :: st) h r h' := by
  intro p l e s m args below meth c D g ad A H locs la C K hA hL hP hD hS
  exact lv_icmp_ne C.1 C.2.1 hd ht (fun z => kt z p l e s m args below meth c D g ad A H locs la C K hA hL hP hD hS) (fun z => kf z p l e s m args below meth c D g ad A H locs la C K hA hL hP hD hS)
theorem mJ_icmp_lt {x y : Int32} {off : Int} (tgt : Nat) (hd : decode M.2.1 pc = .ok (.if_icmp .lt off, 3)) (ht : (pc : Int) + off = (tgt : Int)) (kt : x < y → mJ M tgt ls st h r h') (kf : ¬ x < y → mJ M (pc + 3) ls st h r h') : mJ M pc ls (.int y :: .int x :: st) h r h' := by
  intro p l e s m args below meth c D g ad A H locs la C K hA hL hP hD hS
  exact lv_icmp_lt C.1 C.2.1 hd ht (fun z => kt z p l e s m args below meth c D g ad A H locs la C K hA hL hP hD hS) (fun z => kf z p l e s m args below meth c D g ad A H locs la C K hA hL hP hD hS)
theorem mJ_icmp_ge {x y : Int32} {off : Int} (tgt : Nat) (hd : decode M.2.1 pc = .ok (.if_icmp .ge off, 3)) (ht : (pc : Int) + off = (tgt : Int)) (kt : y ≤ x → mJ M tgt ls st h r h') (kf : ¬ y ≤ x → mJ M (pc + 3) ls st h r h') : mJ M pc ls (.int y :: .int x :: st) h r h' := by
  intro p l e s m args below meth c D g ad A H locs la C K hA hL hP hD hS
  exact lv_icmp_ge C.1 C.2.1 hd ht (fun z => kt z p l e s m args below meth c D g ad A H locs la C K hA hL hP hD hS) (fun z => kf z p l e s m args below meth c D g ad A H locs la C K hA hL hP hD hS)
theorem mJ_icmp_gt {x y : Int32} {off : Int} (tgt : Nat) (hd : decode M.2.1 pc = .ok (.if_icmp .gt off, 3)) (ht : (pc : Int) + off = (tgt : Int)) (kt : y < x → mJ M tgt ls st h r h') (kf : ¬ y < x → mJ M (pc + 3) ls st h r h') : mJ M pc ls (.int y :: .int x :: st) h r h' := by
  intro p l e s m args below meth c D g ad A H locs la C K hA hL hP hD hS
  exact lv_icmp_gt C.1 C.2.1 hd ht (fun z => kt z p l e s m args below meth c D g ad A H locs la C K hA hL hP hD hS) (fun z => kf z p l e s m args below meth c D g ad A H locs la C K hA hL hP hD hS)
theorem mJ_icmp_le {x y : Int32} {off : Int} (tgt : Nat) (hd : decode M.2.1 pc = .ok (.if_icmp .le off, 3)) (ht : (pc : Int) + off = (tgt : Int)) (kt : x ≤ y → mJ M tgt ls st h r h') (kf : ¬ x ≤ y → mJ M (pc + 3) ls st h r h') : mJ M pc ls (.int y :: .int x :: st) h r h' := by
  intro p l e s m args below meth c D g ad A H locs la C K hA hL hP hD hS
  exact lv_icmp_le C.1 C.2.1 hd ht (fun z => kt z p l e s m args below meth c D g ad A H locs la C K hA hL hP hD hS) (fun z => kf z p l e s m args below meth c D g ad A H locs la C K hA hL hP hD hS)
theorem mJ_tin {dflt lo hi : Int} {offs : Array Int} {len : Nat} {x : Int32} {off : Int} (tgt : Nat) (hd : decode M.2.1 pc = .ok (.tableswitch dflt lo hi offs, len)) (h1 : ¬ x.toInt < lo) (h2 : ¬ hi < x.toInt) (ho : offs[(x.toInt - lo).toNat]? = some off) (ht : (pc : Int) + off = (tgt : Int)) (k : mJ M tgt ls st h r h') : mJ M pc ls (.int x :: st) h r h' := by
  intro p l e s m args below meth c D g ad A H locs la C K hA hL hP hD hS
  exact lv_tableIn C.1 C.2.1 hd h1 h2 ho ht (k p l e s m args below meth c D g ad A H locs la C K hA hL hP hD hS)
theorem mJ_tout {dflt lo hi : Int} {offs : Array Int} {len : Nat} {x : Int32} (tgt : Nat) (hd : decode M.2.1 pc = .ok (.tableswitch dflt lo hi offs, len)) (h1 : x.toInt < lo ∨ hi < x.toInt) (ht : (pc : Int) + dflt = (tgt : Int)) (k : mJ M tgt ls st h r h') : mJ M pc ls (.int x :: st) h r h' := by
  intro p l e s m args below meth c D g ad A H locs la C K hA hL hP hD hS
  exact lv_tableOut C.1 C.2.1 hd h1 ht (k p l e s m args below meth c D g ad A H locs la C K hA hL hP hD hS)
theorem mJ_lsw {dflt : Int} {ps : Array (Int × Int)} {len : Nat} {x : Int32} {off : Int} (tgt : Nat) (hd : decode M.2.1 pc = .ok (.lookupswitch dflt ps, len)) (hp : (ps.toList.zip (ps.toList.drop 1)).all (fun (a, next) => a.1 < next.1) = true) (ho : Op.lookupswitch.offset ps.toList dflt x.toInt = off) (ht : (pc : Int) + off = (tgt : Int)) (k : mJ M tgt ls st h r h') : mJ M pc ls (.int x :: st) h r h' := by
  intro p l e s m args below meth c D g ad A H locs la C K hA hL hP hD hS
  exact lv_lookup C.1 C.2.1 hd hp ho ht (k p l e s m args below meth c D g ad A H locs la C K hA hL hP hD hS)
/-- a field by its link: class number ci, slot k -/
def m_fld (own : String) (idx ci k : Nat) : Prop := ∃ (C : String) (T : u_T) (N : Nat), vwCl[ci]? = some (C, T, N) ∧ k < N ∧ (∀ w ∈ u_ws C T N, m_in w) ∧ (m_in (.fieldLink own idx (T k).1 (T k).2.1 (T k).2.2.1) ∨ ∃ host, m_in (.fieldLinkNest own idx (T k).1 (T k).2.1 (T k).2.2.1 host))
def m_fldp (own : String) (idx ci k : Nat) (ty : FieldType) : Prop := ∃ (C : String) (T : u_T) (N : Nat) (ty0 : Nat → FieldType), vwCl[ci]? = some (C, T, N) ∧ k < N ∧ (∀ w ∈ u_ws C T N, m_in w) ∧ (m_in (.fieldLink own idx (T k).1 (T k).2.1 (T k).2.2.1) ∨ ∃ host, m_in (.fieldLinkNest own idx (T k).1 (T k).2.1 (T k).2.2.1 host)) ∧ (∀ k, k < N → parseFieldDescriptor (T k).2.2.1 = some (ty0 k)) ∧ (∀ a, a < N → ∀ b, b < N → a ≠ b → (T a).2.1 ≠ (T b).2.1) ∧ (T k).2.2.2 = false ∧ ty0 k = ty
theorem mJ_get {a idx ci k : Nat} {fs : List Value} {v : Value} (hd : decode M.2.1 pc = .ok (.getfield idx, 3)) (hf : m_fld M.1.cls idx ci k) (hc : h[a]? = some (.inr (ci, fs))) (hv : fs[k]? = some v) (kk : mJ M (pc + 3) ls (v :: st) h r h') : mJ M pc ls (.ref a :: st) h r h' := by
  intro p l e s m args below meth c D g ad A H locs la C K hA hL hP hD hS
  obtain ⟨C0, T, N, f1, f2, f3, f4⟩ := hf
  have hw := m_w_at (g := g) (ad := ad) hc
  have hv' : (fs.map (m_v ad))[k]? = some (m_v ad v) := by rw [List.getElem?_map, hv]; rfl
  rcases f4 with f4 | ⟨host, f4⟩
  · exact va_get C.1 C.2.1 C.2.2.2.2.2.1 (fun w hw => m_in_tbl (f3 w hw)) C.2.2.2.2.1 K hP a hw f1 k f2 (m_cx_in C f4) (fun _ z => z) hv' hd (kk p l e s m args below meth c D g ad A H locs la C K hA hL hP hD hS)
  · exact va_getN C.1 C.2.1 C.2.2.2.2.2.1 (fun w hw => m_in_tbl (f3 w hw)) C.2.2.2.2.1 K hP a hw f1 k f2 (m_cx_in C f4) (fun _ z => z) hv' hd (kk p l e s m args below meth c D g ad A H locs la C K hA hL hP hD hS)
theorem mJ_put {a idx ci k : Nat} {ty : FieldType} {fs : List Value} {x : Int32} (hd : decode M.2.1 pc = .ok (.putfield idx, 3)) (hf : m_fldp M.1.cls idx ci k ty) (hc : h[a]? = some (.inr (ci, fs))) (hl : k < fs.length) (hn : narrow ty (.int x) = .int x) (hfit : fits ty (.int x) = true) {h2 : List mC} (hs : h.set a (.inr (ci, fs.set k (.int x))) = h2) (kk : mJ M (pc + 3) ls st h2 r h') : mJ M pc ls (.int x :: .ref a :: st) h r h' := by
  subst hs
  intro p l e s m args below meth c D g ad A H locs la C K hA hL hP hD hS
  obtain ⟨C0, T, N, ty0, f1, f2, f3, f4, f5, f6, f7, f8⟩ := hf
  have hw := m_w_at (g := g) (ad := ad) hc
  have eW : (m_w g ad h).set a (ad a, .inr (ci, (fs.map (m_v ad)).set k (.int x))) = m_w g ad (h.set a (.inr (ci, fs.set k (.int x)))) := by
    rw [← m_w_set]
    show _ = (m_w g ad h).set a (ad a, .inr (ci, (fs.set k (.int x)).map (m_v ad)))
    rw [List.map_set]
    rfl
  rcases f4 with f4 | ⟨host, f4⟩
  · refine va_put C.1 C.2.1 C.2.2.2.2.2.1 (fun w hw => m_in_tbl (f3 w hw)) ty0 f5 f6 C.2.2.2.2.1 K hP hD hS a hw f1 k f2 (m_cx_in C f4) (fun _ z => z) f7 (ty := ty) (v := .int x) (by rw [f5 k f2, f8]) hn hfit (by rw [List.length_map]; exact hl) hd (fun H1 locs1 hP1 hD1 hS1 => ?_)
    rw [eW] at hP1 hD1
    exact kk p l e s m args below meth c D g ad A H1 locs1 la C K hA hL hP1 hD1 hS1
  · refine va_putN C.1 C.2.1 C.2.2.2.2.2.1 (fun w hw => m_in_tbl (f3 w hw)) ty0 f5 f6 C.2.2.2.2.1 K hP hD hS a hw f1 k f2 (m_cx_in C f4) (fun _ z => z) f7 (ty := ty) (v := .int x) (by rw [f5 k f2, f8]) hn hfit (by rw [List.length_map]; exact hl) hd (fun H1 locs1 hP1 hD1 hS1 => ?_)
    rw [eW] at hP1 hD1
    exact kk p l e s m args below meth c D g ad A H1 locs1 la C K hA hL hP1 hD1 hS1
theorem mJ_alen {a t n : Nat} {f : Nat → Int32} {v : Int32} (hd : decode M.2.1 pc = .ok (.arraylength, 1)) (hc : h[a]? = some (.inl (t, n, f))) (ht : t < 1) (hv : Int32.ofNat n = v) (kk : mJ M (pc + 1) ls (.int v :: st) h r h') : mJ M pc ls (.ref a :: st) h r h' := by
  intro p l e s m args below meth c D g ad A H locs la C K hA hL hP hD hS
  have hw := m_w_at (g := g) (ad := ad) hc
  obtain rfl : t = 0 := by omega
  exact va_alen (tys := m_tys g) C.1 C.2.1 K hP a 0 hw rfl hv hd (kk p l e s m args below meth c D g ad A H locs la C K hA hL hP hD hS)
theorem mJ_iald {a n : Nat} {f : Nat → Int32} {i : Int32} (hd : decode M.2.1 pc = .ok (.iaload, 1)) (hc : h[a]? = some (.inl (0, n, f))) (hin : vp_in i n) {v : Int32} (hv : f i.toNatClampNeg = v) (kk : mJ M (pc + 1) ls (.int v :: st) h r h') : mJ M pc ls (.int i :: .ref a :: st) h r h' := by
  subst hv
  intro p l e s m args below meth c D g ad A H locs la C K hA hL hP hD hS
  exact va_iald (tys := m_tys g) C.1 C.2.1 K hP a 0 (m_w_at (g := g) (ad := ad) hc) rfl hin hd (kk p l e s m args below meth c D g ad A H locs la C K hA hL hP hD hS)
theorem mJ_iast {a n : Nat} {f : Nat → Int32} {i x : Int32} (hd : decode M.2.1 pc = .ok (.iastore, 1)) (hc : h[a]? = some (.inl (0, n, f))) (hin : vp_in i n) {h2 : List mC} (hs : h.set a (.inl (0, n, upd f i.toNatClampNeg x)) = h2) (kk : mJ M (pc + 1) ls st h2 r h') : mJ M pc ls (.int x :: .int i :: .ref a :: st) h r h' := by
  subst hs
  intro p l e s m args below meth c D g ad A H locs la C K hA hL hP hD hS
  refine va_iast (tys := m_tys g) C.1 C.2.1 K hP hD hS a 0 (m_w_at (g := g) (ad := ad) hc) rfl hin hd (fun H1 locs1 hP1 hD1 hS1 => ?_)
  have eW : (m_w g ad h).set a (ad a, .inl (g 0, n, .inl (upd f i.toNatClampNeg x))) = m_w g ad (h.set a (.inl (0, n, upd f i.toNatClampNeg x))) := by rw [← m_w_set]; rfl
  rw [eW] at hP1 hD1
  exact kk p l e s m args below meth c D g ad A H1 locs1 la C K hA hL hP1 hD1 hS1
theorem mJ_iret {v : Int32} (hd : decode M.2.1 pc = .ok (.ireturn, 1)) (hr : M.2.2.2.1 = some .int) (hv : r = some (.int v)) (hh : h = h') : mJ M pc ls [.int v] h r h' := by
  subst hv; subst hh
  intro p l e s m args below meth c D g ad A H locs la C K hA hL hP hD hS
  exact W.iret (v := v) C.1 C.2.1 (C.2.2.1.trans hr) (fun t ht hW => ⟨⟨rfl, by rw [ht]; exact hP, hD⟩, hS.F ht⟩) hS.2.2 hd C.2.2.2.2.2.2
theorem m_nz {v : Int32} (hz : v = 0 ∨ v = 1) : narrow .boolean (.int v) = .int v ∧ fits .boolean (.int v) = true := by
  rcases hz with rfl | rfl <;> exact ⟨rfl, by decide⟩
theorem mJ_zret {v : Int32} (hd : decode M.2.1 pc = .ok (.ireturn, 1)) (hr : M.2.2.2.1 = some .boolean) (hz : v = 0 ∨ v = 1) (hv : r = some (.int v)) (hh : h = h') : mJ M pc ls [.int v] h r h' := by
  subst hv; subst hh
  intro p l e s m args below meth c D g ad A H locs la C K hA hL hP hD hS
  exact W.zret (v := v) (ty := .boolean) C.1 C.2.1 (C.2.2.1.trans hr) (m_nz hz).1 (fun t ht hW => ⟨⟨rfl, by rw [ht]; exact hP, hD⟩, hS.F ht⟩) hS.2.2 hd C.2.2.2.2.2.2
theorem mJ_vret (hd : decode M.2.1 pc = .ok (.return_, 1)) (hr : M.2.2.2.1 = none) (hv : r = none) (hh : h = h') : mJ M pc ls [] h r h' := by
  subst hv; subst hh
  intro p l e s m args below meth c D g ad A H locs la C K hA hL hP hD hS
  exact W.vret C.1 C.2.1 (C.2.2.1.trans hr) (fun t ht hW => ⟨⟨rfl, by rw [ht]; exact hP, hD⟩, hS.F ht⟩) hS.2.2 hd C.2.2.2.2.2.2
/-- a callee: what the tables say of it -/
def m_me (M2 : mM) (n : Nat) : Prop := m_in (.code M2.1 M2.2.1 M2.2.2.1 M2.2.2.2.1) ∧ m_in (.initialized M2.1.cls) ∧ (M2.1.cls ≠ "java/lang/invoke/MethodHandle" ∧ M2.1.cls ≠ "java/lang/invoke/VarHandle") ∧ (parseMethodDescriptor M2.1.desc).map (fun d => d.parameters.length) = some n ∧ M2.2.2.2.2.cells = 0 ∧ M2.2.2.2.2.slots = 0
def m_mev (M2 : mM) (n : Nat) : Prop := m_me M2 n ∧ m_in (.instanceMethod M2.1) ∧ m_in (.selects M2.1.cls M2.1 M2.1)
def m_mes (M2 : mM) (n : Nat) : Prop := m_me M2 n ∧ m_in (.static M2.1)
def m_lk (own : String) (idx : Nat) (y : MethodName) : Prop := m_in (.methodLink own idx y) ∨ ∃ host, m_in (.methodLinkNest own idx y host)
def m_rm (M M2 : mM) : Prop := M2.2.2.2.2.frames + 1 ≤ M.2.2.2.2.frames ∧ 8 + (M2.2.2.1 + 11) + M2.2.2.2.2.locals ≤ M.2.2.2.2.locals
theorem m_blind {D : va_G} {g : Nat → ClassId} {ad : Nat → Nat} {h : List mC} {av : List Value} {sz : Nat} : FrameBlind (va_Pc av (fun U => U.heap.size = sz ∧ va_P D vwCl (m_w g ad h) U.heap ∧ va_K D vwCl (m_tys g) U ∧ va_D (fun _ => True) (m_w g ad h))) :=
  fun a U gg mk q => by
    obtain ⟨q0, q1, qP, qK, qD⟩ := q
    exact ⟨q0, q1, qP, va_K.moved (u := U) (U := U.calling gg mk a) (Vm.Alike.refl U.vm) qK, qD⟩
theorem m_keep {M : mM} {p : Program} {s : State} {m : MethodId} {args : Array Value} {meth : Method} {c : Code} (C : m_cx M p s m args meth c) {M2 : mM} (hc : m_in (.code M2.1 M2.2.1 M2.2.2.1 M2.2.2.2.1)) : ∀ w ∈ m_ws M2, ∀ (a' : Array Value) (U : State), s.WarmedH U.vm → w.before a' U = true := by
  intro w hw a' U hW
  rcases List.mem_cons.mp hw with rfl | hw
  · exact m_okW_keep hc.2 hW (m_cx_in C hc)
  · exact m_okW_keep (List.mem_filter.mp hw).2 hW (C.2.2.2.2.2.1 w hw)
theorem m_goes {p : Program} {l : Launch} {e : Env} {R : Room} {s : State} {m : MethodId} {args : Array Value} {below : List Frame} {meth : Method} {c : Code} {H : Heap} {locs : List Loc} {Q : State → Prop} {la : Array Slot} {st0 rest : List Value} {D : va_G} {g : Nat → ClassId} {ad : Nat → Nat} {A A1 : Nat → Prop} {h2 : List mC} {r2 : Option Value} {a : Array Value} {free : Addr → Prop}
    (hr : va_Run p l e R s m args below meth c H locs 0 0 0 0 (F0 m pc la st0) rest (m_Q D g ad A1 r2 h2 a) free) (hS : va_S A s.heap H locs) (hA : ∀ q, A1 q → A q) (hf : ∀ q, free q → A q)
    (kk : ∀ (H1 : Heap) (locs1 : List Loc), va_P D vwCl (m_w g ad h2) H1 → va_D A (m_w g ad h2) → va_S A s.heap H1 locs1 → W p l e R s m args below meth c H1 locs1 0 0 Q (F0 m (pc + 3) la ((r2.map (m_v ad)).toList ++ rest))) : W p l e R s m args below meth c H locs 0 0 Q (F0 m pc la st0) := by
  intro T hT X
  obtain ⟨v, st₀, t, T', L, h0, X', hL, e1, e2, ⟨⟨hv, hP, hD⟩, hz, hk⟩, st⟩ := hr T hT X
  cases hv
  rw [h0] at hz hk
  obtain ⟨t2, a1, b1⟩ := kk T'.heap (locs ++ L) (by rw [e1]; exact hP) (hD.weaken (fun _ q _ h => hA q.1 h))
    ⟨Nat.le_trans hS.1 (by rw [e1]; exact hz), fun q h1 h2 => by rw [e1, hk q (Nat.lt_of_lt_of_le h1 hS.1) (fun z => h2 (hA q z))]; exact hS.2.1 q h1 h2, fun q hq => by
      rcases List.mem_append.mp hq with h | h
      · exact hS.2.2 q h
      · exact hf _ (hL q h)⟩ T' rfl X'
  exact ⟨t2, st t2 a1, b1⟩
theorem m_fr {A : Nat → Prop} {g : Nat → ClassId} {ad : Nat → Nat} {s : State} {H : Heap} {locs : List Loc} (hD : va_D A (m_w g ad h)) (hS : va_S A s.heap H locs) (hA : ∀ q : Nat, s.heap.size ≤ q → A q) : ∀ q, va_A (m_w g ad h) H.size q → A q := by
  intro q hq
  rcases hq with ⟨k, e, hk⟩ | hq
  · exact hD.2 k _ hk
  · exact hA q (Nat.le_trans hS.1 hq)
theorem m_app {ad : Nat → Nat} {r2 : Option Value} {rest : List Value} : (r2.map (m_v ad)).toList ++ rest.map (m_v ad) = (r2.toList ++ rest).map (m_v ad) := by cases r2 <;> rfl
theorem m_cats {ad : Nat → Nat} {rest : List Value} : ((rest.map (m_v ad)).map fun v => v.category).sum = (rest.map fun v => v.category).sum := by
  rw [List.map_map]
  congr 1
  apply List.map_congr_left
  intro v _
  exact m_cat ad v
theorem mJ_cV {M2 : mM} {idx n a ci : Nat} {fs As rest : List Value} {r2 : Option Value} {h2 : List mC} (hd : decode M.2.1 pc = .ok (.invokevirtual idx, 3)) (hm : m_mev M2 n) (hk : m_lk M.1.cls idx M2.1) (hR : m_rm M M2) (hn : As.length = n) (hc : h[a]? = some (.inr (ci, fs))) (hcl : (vwCl[ci]?).map (fun q => q.1) = some M2.1.cls) (hst : st = As.reverse ++ .ref a :: rest) (hcat : (rest.map fun v => v.category).sum ≤ 8)
    (ct : mCt M2 (.ref a :: As) h r2 h2) (kk : mJ M (pc + 3) ls (r2.toList ++ rest) h2 r h') : mJ M pc ls st h r h' := by
  subst hst
  intro p l e s m args below meth c D g ad A H locs la C K hA hL hP hD hS
  obtain ⟨⟨m1, m2, m3, m4, m5, m6⟩, m7, m8⟩ := hm
  have hF := m_fr (h := h) hD hS hA
  obtain ⟨cq, hcq, hcn⟩ := Option.map_eq_some_iff.mp hcl
  have hrcv := va_recv K hP hcq (m_w_at (g := g) (ad := ad) hc)
  have hn2 : ∀ sig, parseMethodDescriptor M2.1.desc = some sig → n = sig.parameters.length := fun sig h => by
    rw [h] at m4
    exact (Option.some.inj m4).symm
  have hpre : PreV s H cq.1 (ad a) (va_Pc ((.ref a :: As).map (m_v ad)) (fun U => U.heap.size = H.size ∧ va_P D vwCl (m_w g ad h) U.heap ∧ va_K D vwCl (m_tys g) U ∧ va_D (fun _ => True) (m_w g ad h))) (As.map (m_v ad)) :=
    ⟨m_blind, hrcv, fun U hU hW => ⟨rfl, by rw [hU], by rw [hU]; exact hP, va_K.moved hW.alike K, hD.weaken (fun _ _ _ _ => trivial)⟩⟩
  have hstk : (As.reverse ++ Value.ref a :: rest).map (m_v ad) = (As.map (m_v ad)).reverse ++ .ref (ad a) :: rest.map (m_v ad) := by simp [m_v]
  rw [hstk]
  rcases hk with hk | ⟨host, hk⟩
  · refine m_goes (va_runV (C := cq.1) ⟨C.1, C.2.1, C.2.2.2.1, C.2.2.2.2.1, C.2.2.2.2.2.1⟩ (ct l D g ad H.size) (n := n) ⟨⟨m5, m6, hR.1, hR.2, m_keep C m1, List.mem_cons_self, m_cx_in C m1, m_cx_in C m2, m3, hn2, m_cx_in C hk⟩, m_cx_in C m7, by rw [hcn]; exact m_cx_in C m8⟩ hpre rfl (by rw [List.length_map]; exact hn) hL.1 rfl (lv_room (by rw [m_cats]; exact hcat)) hd ⟨Nat.zero_le _, Nat.zero_le _⟩) hS hF hF (fun H1 locs1 hP1 hD1 hS1 => ?_)
    rw [m_app]
    exact kk p l e s m args below meth c D g ad A H1 locs1 la C K hA hL hP1 hD1 hS1
  · refine m_goes (va_runVN (C := cq.1) ⟨C.1, C.2.1, C.2.2.2.1, C.2.2.2.2.1, C.2.2.2.2.2.1⟩ (ct l D g ad H.size) (n := n) ⟨⟨⟨m5, m6, hR.1, hR.2, m_keep C m1, List.mem_cons_self⟩, m_cx_in C m1, m_cx_in C m2, m3, hn2, m_cx_in C hk⟩, m_cx_in C m7, by rw [hcn]; exact m_cx_in C m8⟩ hpre rfl (by rw [List.length_map]; exact hn) hL.1 rfl (lv_room (by rw [m_cats]; exact hcat)) hd ⟨Nat.zero_le _, Nat.zero_le _⟩) hS hF hF (fun H1 locs1 hP1 hD1 hS1 => ?_)
    rw [m_app]
    exact kk p l e s m args below meth c D g ad A H1 locs1 la C K hA hL hP1 hD1 hS1
theorem mJ_cS {M2 : mM} {idx n : Nat} {As rest : List Value} {r2 : Option Value} {h2 : List mC} (hd : decode M.2.1 pc = .ok (.invokestatic idx, 3)) (hm : m_mes M2 n) (hk : m_lk M.1.cls idx M2.1) (hR : m_rm M M2) (hn : As.length = n) (hst : st = As.reverse ++ rest) (hcat : (rest.map fun v => v.category).sum ≤ 8)
    (ct : mCt M2 As h r2 h2) (kk : mJ M (pc + 3) ls (r2.toList ++ rest) h2 r h') : mJ M pc ls st h r h' := by
  subst hst
  intro p l e s m args below meth c D g ad A H locs la C K hA hL hP hD hS
  obtain ⟨⟨m1, m2, m3, m4, m5, m6⟩, m7⟩ := hm
  have hF := m_fr (h := h) hD hS hA
  have hn2 : ∀ sig, parseMethodDescriptor M2.1.desc = some sig → n = sig.parameters.length := fun sig h => by
    rw [h] at m4
    exact (Option.some.inj m4).symm
  have hpre : PreS s H (va_Pc (As.map (m_v ad)) (fun U => U.heap.size = H.size ∧ va_P D vwCl (m_w g ad h) U.heap ∧ va_K D vwCl (m_tys g) U ∧ va_D (fun _ => True) (m_w g ad h))) (As.map (m_v ad)) :=
    ⟨m_blind, fun U hU hW => ⟨rfl, by rw [hU], by rw [hU]; exact hP, va_K.moved hW.alike K, hD.weaken (fun _ _ _ _ => trivial)⟩⟩
  have hstk : (As.reverse ++ rest).map (m_v ad) = (As.map (m_v ad)).reverse ++ rest.map (m_v ad) := by simp
  rw [hstk]
  rcases hk with hk | ⟨host, hk⟩
  · refine m_goes (va_runS ⟨C.1, C.2.1, C.2.2.2.1, C.2.2.2.2.1, C.2.2.2.2.2.1⟩ (ct l D g ad H.size) (n := n) ⟨⟨m5, m6, hR.1, hR.2, m_keep C m1, List.mem_cons_self, m_cx_in C m1, m_cx_in C m2, m3, hn2, m_cx_in C hk⟩, m_cx_in C m7⟩ hpre rfl (by rw [List.length_map]; exact hn) hL.1 rfl (lv_room (by rw [m_cats]; exact hcat)) hd ⟨Nat.zero_le _, Nat.zero_le _⟩) hS hF hF (fun H1 locs1 hP1 hD1 hS1 => ?_)
    rw [m_app]
    exact kk p l e s m args below meth c D g ad A H1 locs1 la C K hA hL hP1 hD1 hS1
  · refine m_goes (va_runSN ⟨C.1, C.2.1, C.2.2.2.1, C.2.2.2.2.1, C.2.2.2.2.2.1⟩ (ct l D g ad H.size) (n := n) ⟨⟨⟨m5, m6, hR.1, hR.2, m_keep C m1, List.mem_cons_self⟩, m_cx_in C m1, m_cx_in C m2, m3, hn2, m_cx_in C hk⟩, m_cx_in C m7, trivial⟩ hpre rfl (by rw [List.length_map]; exact hn) hL.1 rfl (lv_room (by rw [m_cats]; exact hcat)) hd ⟨Nat.zero_le _, Nat.zero_le _⟩) hS hF hF (fun H1 locs1 hP1 hD1 hS1 => ?_)
    rw [m_app]
    exact kk p l e s m args below meth c D g ad A H1 locs1 la C K hA hL hP1 hD1 hS1
theorem mJ_cV0i {M2 : mM} {idx a ci : Nat} {fs : List Value} {x : Int32} {h2 : List mC} (hd : decode M.2.1 pc = .ok (.invokevirtual idx, 3)) (hm : m_mev M2 0) (hk : m_lk M.1.cls idx M2.1) (hR : m_rm M M2) (hc : h[a]? = some (.inr (ci, fs))) (hcl : (vwCl[ci]?).map (fun q => q.1) = some M2.1.cls) (hcat : (st.map fun v => v.category).sum ≤ 8) (ct : mCt M2 (.ref a :: []) h (some (.int x)) h2) (kk : mJ M (pc + 3) ls (.int x :: st) h2 r h') : mJ M pc ls (.ref a :: st) h r h' :=
  mJ_cV (As := []) hd hm hk hR rfl hc hcl rfl hcat ct kk
theorem mJ_cV0v {M2 : mM} {idx a ci : Nat} {fs : List Value} {h2 : List mC} (hd : decode M.2.1 pc = .ok (.invokevirtual idx, 3)) (hm : m_mev M2 0) (hk : m_lk M.1.cls idx M2.1) (hR : m_rm M M2) (hc : h[a]? = some (.inr (ci, fs))) (hcl : (vwCl[ci]?).map (fun q => q.1) = some M2.1.cls) (hcat : (st.map fun v => v.category).sum ≤ 8) (ct : mCt M2 (.ref a :: []) h none h2) (kk : mJ M (pc + 3) ls st h2 r h') : mJ M pc ls (.ref a :: st) h r h' :=
  mJ_cV (As := []) hd hm hk hR rfl hc hcl rfl hcat ct kk
theorem mJ_cV1i {M2 : mM} {idx a ci : Nat} {fs : List Value} {v1 : Value} {x : Int32} {h2 : List mC} (hd : decode M.2.1 pc = .ok (.invokevirtual idx, 3)) (hm : m_mev M2 1) (hk : m_lk M.1.cls idx M2.1) (hR : m_rm M M2) (hc : h[a]? = some (.inr (ci, fs))) (hcl : (vwCl[ci]?).map (fun q => q.1) = some M2.1.cls) (hcat : (st.map fun v => v.category).sum ≤ 8) (ct : mCt M2 (.ref a :: [v1]) h (some (.int x)) h2) (kk : mJ M (pc + 3) ls (.int x :: st) h2 r h') : mJ M pc ls (v1 :: .ref a :: st) h r h' :=
  mJ_cV (As := [v1]) hd hm hk hR rfl hc hcl rfl hcat ct kk
theorem mJ_cS1i {M2 : mM} {idx : Nat} {v1 : Value} {x : Int32} {h2 : List mC} (hd : decode M.2.1 pc = .ok (.invokestatic idx, 3)) (hm : m_mes M2 1) (hk : m_lk M.1.cls idx M2.1) (hR : m_rm M M2) (hcat : (st.map fun v => v.category).sum ≤ 8) (ct : mCt M2 [v1] h (some (.int x)) h2) (kk : mJ M (pc + 3) ls (.int x :: st) h2 r h') : mJ M pc ls (v1 :: st) h r h' :=
  mJ_cS (As := [v1]) hd hm hk hR rfl rfl hcat ct kk
theorem mJ_cV1v {M2 : mM} {idx a ci : Nat} {fs : List Value} {v1 : Value} {h2 : List mC} (hd : decode M.2.1 pc = .ok (.invokevirtual idx, 3)) (hm : m_mev M2 1) (hk : m_lk M.1.cls idx M2.1) (hR : m_rm M M2) (hc : h[a]? = some (.inr (ci, fs))) (hcl : (vwCl[ci]?).map (fun q => q.1) = some M2.1.cls) (hcat : (st.map fun v => v.category).sum ≤ 8) (ct : mCt M2 (.ref a :: [v1]) h none h2) (kk : mJ M (pc + 3) ls st h2 r h') : mJ M pc ls (v1 :: .ref a :: st) h r h' :=
  mJ_cV (As := [v1]) hd hm hk hR rfl hc hcl rfl hcat ct kk
theorem mJ_cV2i {M2 : mM} {idx a ci : Nat} {fs : List Value} {v1 v2 : Value} {x : Int32} {h2 : List mC} (hd : decode M.2.1 pc = .ok (.invokevirtual idx, 3)) (hm : m_mev M2 2) (hk : m_lk M.1.cls idx M2.1) (hR : m_rm M M2) (hc : h[a]? = some (.inr (ci, fs))) (hcl : (vwCl[ci]?).map (fun q => q.1) = some M2.1.cls) (hcat : (st.map fun v => v.category).sum ≤ 8) (ct : mCt M2 (.ref a :: [v1, v2]) h (some (.int x)) h2) (kk : mJ M (pc + 3) ls (.int x :: st) h2 r h') : mJ M pc ls (v2 :: v1 :: .ref a :: st) h r h' :=
  mJ_cV (As := [v1, v2]) hd hm hk hR rfl hc hcl rfl hcat ct kk
theorem mJ_cS2i {M2 : mM} {idx : Nat} {v1 v2 : Value} {x : Int32} {h2 : List mC} (hd : decode M.2.1 pc = .ok (.invokestatic idx, 3)) (hm : m_mes M2 2) (hk : m_lk M.1.cls idx M2.1) (hR : m_rm M M2) (hcat : (st.map fun v => v.category).sum ≤ 8) (ct : mCt M2 [v1, v2] h (some (.int x)) h2) (kk : mJ M (pc + 3) ls (.int x :: st) h2 r h') : mJ M pc ls (v2 :: v1 :: st) h r h' :=
  mJ_cS (As := [v1, v2]) hd hm hk hR rfl rfl hcat ct kk
theorem mJ_cV2v {M2 : mM} {idx a ci : Nat} {fs : List Value} {v1 v2 : Value} {h2 : List mC} (hd : decode M.2.1 pc = .ok (.invokevirtual idx, 3)) (hm : m_mev M2 2) (hk : m_lk M.1.cls idx M2.1) (hR : m_rm M M2) (hc : h[a]? = some (.inr (ci, fs))) (hcl : (vwCl[ci]?).map (fun q => q.1) = some M2.1.cls) (hcat : (st.map fun v => v.category).sum ≤ 8) (ct : mCt M2 (.ref a :: [v1, v2]) h none h2) (kk : mJ M (pc + 3) ls st h2 r h') : mJ M pc ls (v2 :: v1 :: .ref a :: st) h r h' :=
  mJ_cV (As := [v1, v2]) hd hm hk hR rfl hc hcl rfl hcat ct kk
theorem mJ_cV3i {M2 : mM} {idx a ci : Nat} {fs : List Value} {v1 v2 v3 : Value} {x : Int32} {h2 : List mC} (hd : decode M.2.1 pc = .ok (.invokevirtual idx, 3)) (hm : m_mev M2 3) (hk : m_lk M.1.cls idx M2.1) (hR : m_rm M M2) (hc : h[a]? = some (.inr (ci, fs))) (hcl : (vwCl[ci]?).map (fun q => q.1) = some M2.1.cls) (hcat : (st.map fun v => v.category).sum ≤ 8) (ct : mCt M2 (.ref a :: [v1, v2, v3]) h (some (.int x)) h2) (kk : mJ M (pc + 3) ls (.int x :: st) h2 r h') : mJ M pc ls (v3 :: v2 :: v1 :: .ref a :: st) h r h' :=
  mJ_cV (As := [v1, v2, v3]) hd hm hk hR rfl hc hcl rfl hcat ct kk
theorem mJ_cS3i {M2 : mM} {idx : Nat} {v1 v2 v3 : Value} {x : Int32} {h2 : List mC} (hd : decode M.2.1 pc = .ok (.invokestatic idx, 3)) (hm : m_mes M2 3) (hk : m_lk M.1.cls idx M2.1) (hR : m_rm M M2) (hcat : (st.map fun v => v.category).sum ≤ 8) (ct : mCt M2 [v1, v2, v3] h (some (.int x)) h2) (kk : mJ M (pc + 3) ls (.int x :: st) h2 r h') : mJ M pc ls (v3 :: v2 :: v1 :: st) h r h' :=
  mJ_cS (As := [v1, v2, v3]) hd hm hk hR rfl rfl hcat ct kk
theorem mJ_cV3v {M2 : mM} {idx a ci : Nat} {fs : List Value} {v1 v2 v3 : Value} {h2 : List mC} (hd : decode M.2.1 pc = .ok (.invokevirtual idx, 3)) (hm : m_mev M2 3) (hk : m_lk M.1.cls idx M2.1) (hR : m_rm M M2) (hc : h[a]? = some (.inr (ci, fs))) (hcl : (vwCl[ci]?).map (fun q => q.1) = some M2.1.cls) (hcat : (st.map fun v => v.category).sum ≤ 8) (ct : mCt M2 (.ref a :: [v1, v2, v3]) h none h2) (kk : mJ M (pc + 3) ls st h2 r h') : mJ M pc ls (v3 :: v2 :: v1 :: .ref a :: st) h r h' :=
  mJ_cV (As := [v1, v2, v3]) hd hm hk hR rfl hc hcl rfl hcat ct kk
theorem mJ_cV4i {M2 : mM} {idx a ci : Nat} {fs : List Value} {v1 v2 v3 v4 : Value} {x : Int32} {h2 : List mC} (hd : decode M.2.1 pc = .ok (.invokevirtual idx, 3)) (hm : m_mev M2 4) (hk : m_lk M.1.cls idx M2.1) (hR : m_rm M M2) (hc : h[a]? = some (.inr (ci, fs))) (hcl : (vwCl[ci]?).map (fun q => q.1) = some M2.1.cls) (hcat : (st.map fun v => v.category).sum ≤ 8) (ct : mCt M2 (.ref a :: [v1, v2, v3, v4]) h (some (.int x)) h2) (kk : mJ M (pc + 3) ls (.int x :: st) h2 r h') : mJ M pc ls (v4 :: v3 :: v2 :: v1 :: .ref a :: st) h r h' :=
  mJ_cV (As := [v1, v2, v3, v4]) hd hm hk hR rfl hc hcl rfl hcat ct kk
theorem mJ_cS4i {M2 : mM} {idx : Nat} {v1 v2 v3 v4 : Value} {x : Int32} {h2 : List mC} (hd : decode M.2.1 pc = .ok (.invokestatic idx, 3)) (hm : m_mes M2 4) (hk : m_lk M.1.cls idx M2.1) (hR : m_rm M M2) (hcat : (st.map fun v => v.category).sum ≤ 8) (ct : mCt M2 [v1, v2, v3, v4] h (some (.int x)) h2) (kk : mJ M (pc + 3) ls (.int x :: st) h2 r h') : mJ M pc ls (v4 :: v3 :: v2 :: v1 :: st) h r h' :=
  mJ_cS (As := [v1, v2, v3, v4]) hd hm hk hR rfl rfl hcat ct kk
theorem mJ_cV4v {M2 : mM} {idx a ci : Nat} {fs : List Value} {v1 v2 v3 v4 : Value} {h2 : List mC} (hd : decode M.2.1 pc = .ok (.invokevirtual idx, 3)) (hm : m_mev M2 4) (hk : m_lk M.1.cls idx M2.1) (hR : m_rm M M2) (hc : h[a]? = some (.inr (ci, fs))) (hcl : (vwCl[ci]?).map (fun q => q.1) = some M2.1.cls) (hcat : (st.map fun v => v.category).sum ≤ 8) (ct : mCt M2 (.ref a :: [v1, v2, v3, v4]) h none h2) (kk : mJ M (pc + 3) ls st h2 r h') : mJ M pc ls (v4 :: v3 :: v2 :: v1 :: .ref a :: st) h r h' :=
  mJ_cV (As := [v1, v2, v3, v4]) hd hm hk hR rfl hc hcl rfl hcat ct kk
theorem mJ_cV5i {M2 : mM} {idx a ci : Nat} {fs : List Value} {v1 v2 v3 v4 v5 : Value} {x : Int32} {h2 : List mC} (hd : decode M.2.1 pc = .ok (.invokevirtual idx, 3)) (hm : m_mev M2 5) (hk : m_lk M.1.cls idx M2.1) (hR : m_rm M M2) (hc : h[a]? = some (.inr (ci, fs))) (hcl : (vwCl[ci]?).map (fun q => q.1) = some M2.1.cls) (hcat : (st.map fun v => v.category).sum ≤ 8) (ct : mCt M2 (.ref a :: [v1, v2, v3, v4, v5]) h (some (.int x)) h2) (kk : mJ M (pc + 3) ls (.int x :: st) h2 r h') : mJ M pc ls (v5 :: v4 :: v3 :: v2 :: v1 :: .ref a :: st) h r h' :=
  mJ_cV (As := [v1, v2, v3, v4, v5]) hd hm hk hR rfl hc hcl rfl hcat ct kk
theorem mJ_cS5i {M2 : mM} {idx : Nat} {v1 v2 v3 v4 v5 : Value} {x : Int32} {h2 : List mC} (hd : decode M.2.1 pc = .ok (.invokestatic idx, 3)) (hm : m_mes M2 5) (hk : m_lk M.1.cls idx M2.1) (hR : m_rm M M2) (hcat : (st.map fun v => v.category).sum ≤ 8) (ct : mCt M2 [v1, v2, v3, v4, v5] h (some (.int x)) h2) (kk : mJ M (pc + 3) ls (.int x :: st) h2 r h') : mJ M pc ls (v5 :: v4 :: v3 :: v2 :: v1 :: st) h r h' :=
  mJ_cS (As := [v1, v2, v3, v4, v5]) hd hm hk hR rfl rfl hcat ct kk
theorem mJ_cV5v {M2 : mM} {idx a ci : Nat} {fs : List Value} {v1 v2 v3 v4 v5 : Value} {h2 : List mC} (hd : decode M.2.1 pc = .ok (.invokevirtual idx, 3)) (hm : m_mev M2 5) (hk : m_lk M.1.cls idx M2.1) (hR : m_rm M M2) (hc : h[a]? = some (.inr (ci, fs))) (hcl : (vwCl[ci]?).map (fun q => q.1) = some M2.1.cls) (hcat : (st.map fun v => v.category).sum ≤ 8) (ct : mCt M2 (.ref a :: [v1, v2, v3, v4, v5]) h none h2) (kk : mJ M (pc + 3) ls st h2 r h') : mJ M pc ls (v5 :: v4 :: v3 :: v2 :: v1 :: .ref a :: st) h r h' :=
  mJ_cV (As := [v1, v2, v3, v4, v5]) hd hm hk hR rfl hc hcl rfl hcat ct kk
theorem mJ_cV6i {M2 : mM} {idx a ci : Nat} {fs : List Value} {v1 v2 v3 v4 v5 v6 : Value} {x : Int32} {h2 : List mC} (hd : decode M.2.1 pc = .ok (.invokevirtual idx, 3)) (hm : m_mev M2 6) (hk : m_lk M.1.cls idx M2.1) (hR : m_rm M M2) (hc : h[a]? = some (.inr (ci, fs))) (hcl : (vwCl[ci]?).map (fun q => q.1) = some M2.1.cls) (hcat : (st.map fun v => v.category).sum ≤ 8) (ct : mCt M2 (.ref a :: [v1, v2, v3, v4, v5, v6]) h (some (.int x)) h2) (kk : mJ M (pc + 3) ls (.int x :: st) h2 r h') : mJ M pc ls (v6 :: v5 :: v4 :: v3 :: v2 :: v1 :: .ref a :: st) h r h' :=
  mJ_cV (As := [v1, v2, v3, v4, v5, v6]) hd hm hk hR rfl hc hcl rfl hcat ct kk
theorem mJ_cS6i {M2 : mM} {idx : Nat} {v1 v2 v3 v4 v5 v6 : Value} {x : Int32} {h2 : List mC} (hd : decode M.2.1 pc = .ok (.invokestatic idx, 3)) (hm : m_mes M2 6) (hk : m_lk M.1.cls idx M2.1) (hR : m_rm M M2) (hcat : (st.map fun v => v.category).sum ≤ 8) (ct : mCt M2 [v1, v2, v3, v4, v5, v6] h (some (.int x)) h2) (kk : mJ M (pc + 3) ls (.int x :: st) h2 r h') : mJ M pc ls (v6 :: v5 :: v4 :: v3 :: v2 :: v1 :: st) h r h' :=
  mJ_cS (As := [v1, v2, v3, v4, v5, v6]) hd hm hk hR rfl rfl hcat ct kk
theorem mJ_cV6v {M2 : mM} {idx a ci : Nat} {fs : List Value} {v1 v2 v3 v4 v5 v6 : Value} {h2 : List mC} (hd : decode M.2.1 pc = .ok (.invokevirtual idx, 3)) (hm : m_mev M2 6) (hk : m_lk M.1.cls idx M2.1) (hR : m_rm M M2) (hc : h[a]? = some (.inr (ci, fs))) (hcl : (vwCl[ci]?).map (fun q => q.1) = some M2.1.cls) (hcat : (st.map fun v => v.category).sum ≤ 8) (ct : mCt M2 (.ref a :: [v1, v2, v3, v4, v5, v6]) h none h2) (kk : mJ M (pc + 3) ls st h2 r h') : mJ M pc ls (v6 :: v5 :: v4 :: v3 :: v2 :: v1 :: .ref a :: st) h r h' :=
  mJ_cV (As := [v1, v2, v3, v4, v5, v6]) hd hm hk hR rfl hc hcl rfl hcat ct kk
theorem mJ_cV7i {M2 : mM} {idx a ci : Nat} {fs : List Value} {v1 v2 v3 v4 v5 v6 v7 : Value} {x : Int32} {h2 : List mC} (hd : decode M.2.1 pc = .ok (.invokevirtual idx, 3)) (hm : m_mev M2 7) (hk : m_lk M.1.cls idx M2.1) (hR : m_rm M M2) (hc : h[a]? = some (.inr (ci, fs))) (hcl : (vwCl[ci]?).map (fun q => q.1) = some M2.1.cls) (hcat : (st.map fun v => v.category).sum ≤ 8) (ct : mCt M2 (.ref a :: [v1, v2, v3, v4, v5, v6, v7]) h (some (.int x)) h2) (kk : mJ M (pc + 3) ls (.int x :: st) h2 r h') : mJ M pc ls (v7 :: v6 :: v5 :: v4 :: v3 :: v2 :: v1 :: .ref a :: st) h r h' :=
  mJ_cV (As := [v1, v2, v3, v4, v5, v6, v7]) hd hm hk hR rfl hc hcl rfl hcat ct kk
theorem mJ_cS7i {M2 : mM} {idx : Nat} {v1 v2 v3 v4 v5 v6 v7 : Value} {x : Int32} {h2 : List mC} (hd : decode M.2.1 pc = .ok (.invokestatic idx, 3)) (hm : m_mes M2 7) (hk : m_lk M.1.cls idx M2.1) (hR : m_rm M M2) (hcat : (st.map fun v => v.category).sum ≤ 8) (ct : mCt M2 [v1, v2, v3, v4, v5, v6, v7] h (some (.int x)) h2) (kk : mJ M (pc + 3) ls (.int x :: st) h2 r h') : mJ M pc ls (v7 :: v6 :: v5 :: v4 :: v3 :: v2 :: v1 :: st) h r h' :=
  mJ_cS (As := [v1, v2, v3, v4, v5, v6, v7]) hd hm hk hR rfl rfl hcat ct kk
theorem mJ_cV7v {M2 : mM} {idx a ci : Nat} {fs : List Value} {v1 v2 v3 v4 v5 v6 v7 : Value} {h2 : List mC} (hd : decode M.2.1 pc = .ok (.invokevirtual idx, 3)) (hm : m_mev M2 7) (hk : m_lk M.1.cls idx M2.1) (hR : m_rm M M2) (hc : h[a]? = some (.inr (ci, fs))) (hcl : (vwCl[ci]?).map (fun q => q.1) = some M2.1.cls) (hcat : (st.map fun v => v.category).sum ≤ 8) (ct : mCt M2 (.ref a :: [v1, v2, v3, v4, v5, v6, v7]) h none h2) (kk : mJ M (pc + 3) ls st h2 r h') : mJ M pc ls (v7 :: v6 :: v5 :: v4 :: v3 :: v2 :: v1 :: .ref a :: st) h r h' :=
  mJ_cV (As := [v1, v2, v3, v4, v5, v6, v7]) hd hm hk hR rfl hc hcl rfl hcat ct kk
theorem mJ_cS8i {M2 : mM} {idx : Nat} {v1 v2 v3 v4 v5 v6 v7 v8 : Value} {x : Int32} {h2 : List mC} (hd : decode M.2.1 pc = .ok (.invokestatic idx, 3)) (hm : m_mes M2 8) (hk : m_lk M.1.cls idx M2.1) (hR : m_rm M M2) (hcat : (st.map fun v => v.category).sum ≤ 8) (ct : mCt M2 [v1, v2, v3, v4, v5, v6, v7, v8] h (some (.int x)) h2) (kk : mJ M (pc + 3) ls (.int x :: st) h2 r h') : mJ M pc ls (v8 :: v7 :: v6 :: v5 :: v4 :: v3 :: v2 :: v1 :: st) h r h' :=
  mJ_cS (As := [v1, v2, v3, v4, v5, v6, v7, v8]) hd hm hk hR rfl rfl hcat ct kk
end MROWS
