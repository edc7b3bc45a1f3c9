/-! CONSTRUCTORS: a run that makes cells. References are cell numbers, new cells stand at the end. kJ: as mJ, over a list of cells that grows; u, v: cells and slots made so far. -/
def zA : aF := fun _ => 0
def m_cv (n : Nat) (vs : List Value) : Bool := vs.all (fun v => match v with | .ref i => decide (i < n) | _ => true)
def m_cl (n : Nat) (h : List mC) : Bool := h.all (fun c => match c with | .inl _ => true | .inr o => m_cv n o.2)
theorem m_cv_at {n : Nat} {vs : List Value} (h : m_cv n vs = true) {i : Nat} (hi : Value.ref i ∈ vs) : i < n := of_decide_eq_true (List.all_eq_true.mp h _ hi)
theorem m_v_ext {ad ad' : Nat → Nat} {n : Nat} (ha : ∀ i, i < n → ad' i = ad i) {vs : List Value} (h : m_cv n vs = true) : ∀ v ∈ vs, m_v ad' v = m_v ad v := by
  intro v hv
  cases v with
  | ref i => exact congrArg Value.ref (ha i (m_cv_at h hv))
  | _ => rfl
theorem m_vs_ext {ad ad' : Nat → Nat} {n : Nat} (ha : ∀ i, i < n → ad' i = ad i) {vs : List Value} (h : m_cv n vs = true) : vs.map (m_v ad') = vs.map (m_v ad) := List.map_congr_left (m_v_ext ha h)
theorem m_nr {ad : Nat → Nat} {vs : List Value} (h : m_cv 0 vs = true) : vs.map (m_v ad) = vs := by
  have e : vs.map (m_v ad) = vs.map id := List.map_congr_left (fun v hv => by
    cases v with
    | ref i => exact absurd (m_cv_at h hv) (by omega)
    | _ => rfl)
  rw [e, List.map_id]
theorem m_w_ext {g : Nat → ClassId} {ad ad' : Nat → Nat} {h : List mC} (ha : ∀ i, i < h.length → ad' i = ad i) (hc : m_cl h.length h = true) : m_w g ad' h = m_w g ad h := by
  unfold m_w
  apply List.ext_getElem?
  intro i
  rw [List.getElem?_mapIdx, List.getElem?_mapIdx]
  cases hi : h[i]? with
  | none => rfl
  | some c =>
    have hl : i < h.length := (List.getElem?_eq_some_iff.mp hi).1
    have e : m_e g ad' c = m_e g ad c := by
      cases c with
      | inl a => rfl
      | inr o =>
        have h1 : m_cv h.length o.2 = true := List.all_eq_true.mp hc _ (List.mem_of_getElem? hi)
        show (Sum.inr (o.1, o.2.map (m_v ad')) : va_E) = .inr (o.1, o.2.map (m_v ad))
        rw [m_vs_ext ha h1]
    show some (ad' i, m_e g ad' c) = some (ad i, m_e g ad c)
    rw [e, ha i hl]
theorem m_w_push {g : Nat → ClassId} {ad : Nat → Nat} {h : List mC} {c : mC} : m_w g ad (h ++ [c]) = m_w g ad h ++ [(ad h.length, m_e g ad c)] := by
  unfold m_w
  exact List.mapIdx_concat
theorem m_lv_ext {ad ad' : Nat → Nat} {n nL : Nat} {la : Array Slot} {ls : List Value} (ha : ∀ i, i < n → ad' i = ad i) (hc : m_cv n ls = true) (h : m_lv ad la nL ls) : m_lv ad' la nL ls :=
  ⟨h.1, h.2.1, fun i v hi hv => ⟨(h.2.2 i v hi hv).1, by rw [m_v_ext ha hc v (List.mem_of_getElem? hi)]; exact (h.2.2 i v hi hv).2⟩⟩
theorem ad_push {ad : Nat → Nat} (n q : Nat) : ∃ ad1 : Nat → Nat, (∀ i, i < n → ad1 i = ad i) ∧ ad1 n = q := ⟨fun i => if i = n then q else ad i, fun i hi => if_neg (by omega), if_pos rfl⟩
def kQ (D : va_G) (g : Nat → ClassId) (n : Nat) (ad : Nat → Nat) (A : Nat → Prop) (h : List mC) : Array Value → State → Outcome → State → Prop := fun _ st oc t =>
  (oc = .returned none ∧ ∃ ad' : Nat → Nat, (∀ i, i < n → ad' i = ad i) ∧ va_P D vwCl (m_w g ad' h) t.heap ∧ va_D A (m_w g ad' h)) ∧ va_F A st t
def kJ (M : mM) (pc : Nat) (ls st : List Value) (h : List mC) (u v : Nat) (h' : List mC) : Prop :=
  ∀ (p : Program) (l : Launch) (e : Env) (s : State) (m : MethodId) (args : Array Value) (below : List Frame) (meth : Method) (c : Code) (D : va_G) (g : Nat → ClassId) (ad : Nat → Nat) (A : Nat → Prop) (H : Heap) (locs : List Loc) (la : Array Slot) (n0 : Nat) (ad0 : Nat → Nat),
    n0 ≤ h.length → (∀ i, i < n0 → ad i = ad0 i) → meth.name = "<init>" → m_cx M p s m args meth c → va_K D vwCl (m_tys g) s → (∀ q : Nat, s.heap.size ≤ q → A q) → m_lv ad la M.2.2.1 ls → va_P D vwCl (m_w g ad h) H → va_D A (m_w g ad h) → va_S A s.heap H locs →
    W p l e M.2.2.2.2 s m args below meth c H locs u v (MQ below (kQ D g n0 ad0 A h') args s M.2.2.2.2.cells M.2.2.2.2.slots A) (F0 m pc la (st.map (m_v ad)))
def kCt (M : mM) (av : List Value) (h h' : List mC) : Prop :=
  ∀ (l : Launch) (D : va_G) (g : Nat → ClassId) (ad : Nat → Nat) (sz : Nat), Met l M.1 (m_ws M) M.2.2.2.2 (va_Pc (av.map (m_v ad)) (fun U => U.heap.size = sz ∧ va_P D vwCl (m_w g ad h) U.heap ∧ va_K D vwCl (m_tys g) U ∧ va_D (fun _ => True) (m_w g ad h))) (kQ D g h.length ad (va_A (m_w g ad h) sz) h') M.2.2.2.2.cells M.2.2.2.2.slots (va_A (m_w g ad h) sz)
theorem kCt_intro {M : mM} {av : List Value} {h h' : List mC} (hy : plainFor M.1 = true) (hnm : M.1.name = "<init>") (hlen : av.length ≤ M.2.2.1) (hc : ∀ v ∈ av, v.category = 1) {ls : List Value} (hls : av ++ List.replicate (M.2.2.1 - av.length) .null = ls) (k : kJ M 0 ls [] h 0 0 h') : kCt M av h h' := by
  subst hls
  intro l D g ad sz
  refine Met_ofWF (ws' := m_tbl) (cc := M.2.1) (maxL := M.2.2.1) (ret := M.2.2.2.1) hy rfl ?_
  intro p e s m args below meth c s₁ B hml hv
  obtain ⟨rfl, hsz, hP, hK, hD0⟩ := hv
  subst hsz
  have hts : ∀ w ∈ m_ws M, w.before _ s = true := atoms_spec (ws := m_ws M) B.pre
  rw [lg_entry_eq]
  exact k p l e s m _ below meth c D g ad (va_A (m_w g ad h) s.heap.size) s.heap [] _ h.length ad (Nat.le_refl _) (fun _ _ => rfl) ((name_of_methodNamed B.named B.method).1.trans hnm) ⟨B.exec, B.bytes, B.returns, hml, findClass_of_methodNamed B.named, fun w hw => hts w (List.mem_cons_of_mem _ hw), B.notSynchronized⟩ hK (fun q hq => Or.inr hq) (m_entry hc hlen) hP hD0.self va_S.rf
def m_mei (M2 : mM) (n : Nat) : Prop := m_in (.code M2.1 M2.2.1 M2.2.2.1 M2.2.2.2.1) ∧ m_in (.initialized M2.1.cls) ∧ (M2.1.cls ≠ "java/lang/invoke/MethodHandle" ∧ M2.1.cls ≠ "java/lang/invoke/VarHandle") ∧ (parseMethodDescriptor M2.1.desc).map (fun d => d.parameters.length) = some n ∧ M2.1.name = "<init>" ∧ m_in (.instanceMethod M2.1) ∧ M2.2.2.2.1 = none
theorem k_goes {p : Program} {l : Launch} {e : Env} {R : Room} {s : State} {m : MethodId} {args : Array Value} {below : List Frame} {meth : Method} {c : Code} {H : Heap} {locs : List Loc} {Q : State → Prop} {la : Array Slot} {st0 rest : List Value} {D : va_G} {g : Nat → ClassId} {ad : Nat → Nat} {A A1 : Nat → Prop} {h2 : List mC} {n : Nat} {a : Array Value} {free : Addr → Prop} {u v mc ms pc : Nat}
    (hr : va_Run p l e R s m args below meth c H locs u v mc ms (F0 m pc la st0) rest (kQ D g n ad A1 h2 a) free) (hf : ∀ q, free q → A q) (hLo : ∀ q ∈ locs, A q.base)
    (kk : ∀ (ad' : Nat → Nat) (H1 : Heap) (locs1 : List Loc), (∀ i, i < n → ad' i = ad i) → va_P D vwCl (m_w g ad' h2) H1 → va_D A1 (m_w g ad' h2) → H.size ≤ H1.size → (∀ q : Nat, q < H.size → ¬ A1 q → H1[q]? = H[q]?) → (∀ q ∈ locs1, A q.base) → W p l e R s m args below meth c H1 locs1 (u + mc) (v + ms) Q (F0 m (pc + 3) la rest)) : W p l e R s m args below meth c H locs u v Q (F0 m pc la st0) := by
  intro T hT X
  obtain ⟨v0, st₀, t, T', L, h0, X', hL, e1, e2, ⟨⟨hv, ad', hx, hP, hD⟩, hz, hk⟩, st⟩ := hr T hT X
  cases hv
  rw [h0] at hz hk
  obtain ⟨t2, a1, b1⟩ := kk ad' T'.heap (locs ++ L) hx (by rw [e1]; exact hP) hD (by rw [e1]; exact hz) (fun q h1 h2 => by rw [e1]; exact hk q h1 h2) (fun q hq => (List.mem_append.mp hq).elim (hLo q) (fun h => hf _ (hL q h))) T' rfl X'
  exact ⟨t2, st t2 a1, b1⟩
theorem l_cI {M M2 : mM} {p : Program} {l : Launch} {e : Env} {s : State} {m : MethodId} {args : Array Value} {below : List Frame} {meth : Method} {c : Code} {H : Heap} {locs : List Loc} {Q : State → Prop} {la : Array Slot} {D : va_G} {g : Nat → ClassId} {ad : Nat → Nat} {A : Nat → Prop} {h h2 : List mC} {u v pc idx n a : Nat} {As : List Value} {rest : List Value}
    (hd : decode M.2.1 pc = .ok (.invokespecial idx, 3)) (hm : m_mei M2 n) (hk : m_lk M.1.cls idx M2.1) (hR : m_rm M M2) (hn : As.length = n) (hcat : (rest.map fun v => v.category).sum ≤ 8)
    (ct : kCt M2 (.ref a :: As) h h2) (C : m_cx M p s m args meth c) (K : va_K D vwCl (m_tys g) s) (hL : la.size = M.2.2.1) (hP : va_P D vwCl (m_w g ad h) H) (hD : va_D (fun _ => True) (m_w g ad h)) (hF : ∀ q, va_A (m_w g ad h) H.size q → A q) (hLo : ∀ q ∈ locs, A q.base) (hu : u + M2.2.2.2.2.cells ≤ M.2.2.2.2.cells ∧ v + M2.2.2.2.2.slots ≤ M.2.2.2.2.slots)
    (kk : ∀ (ad' : Nat → Nat) (H1 : Heap) (locs1 : List Loc), (∀ i, i < h.length → ad' i = ad i) → va_P D vwCl (m_w g ad' h2) H1 → va_D (va_A (m_w g ad h) H.size) (m_w g ad' h2) → H.size ≤ H1.size → (∀ q : Nat, q < H.size → ¬ va_A (m_w g ad h) H.size q → H1[q]? = H[q]?) → (∀ q ∈ locs1, A q.base) → W p l e M.2.2.2.2 s m args below meth c H1 locs1 (u + M2.2.2.2.2.cells) (v + M2.2.2.2.2.slots) Q (F0 m (pc + 3) la rest)) :
    W p l e M.2.2.2.2 s m args below meth c H locs u v Q (F0 m pc la ((As.map (m_v ad)).reverse ++ .ref (ad a) :: rest)) := by
  obtain ⟨m1, m2, m3, m4, m5, m6, m7⟩ := hm
  have hn2 : ∀ sig, parseMethodDescriptor M2.1.desc = some sig → n = sig.parameters.length := fun sig h => by
    rw [h] at m4
    exact (Option.some.inj m4).symm
  have m1' : m_in (.code M2.1 M2.2.1 M2.2.2.1 none) := by rw [← m7]; exact m1
  have hmem : Cond.code M2.1 M2.2.1 M2.2.2.1 none ∈ m_ws M2 := by rw [← m7]; exact List.mem_cons_self
  have hpre : PreS s H (va_Pc ((.ref a :: As).map (m_v ad)) (fun U => U.heap.size = H.size ∧ va_P D vwCl (m_w g ad h) U.heap ∧ va_K D vwCl (m_tys g) U ∧ va_D (fun _ => True) (m_w g ad h))) (.ref (ad a) :: As.map (m_v ad)) :=
    ⟨m_blind, fun U hU hW => ⟨rfl, by rw [hU], by rw [hU]; exact hP, va_K.moved hW.alike K, hD⟩⟩
  rcases hk with hk | ⟨host, hk⟩
  · exact k_goes (va_runI ⟨C.1, C.2.1, C.2.2.2.1, C.2.2.2.2.1, C.2.2.2.2.2.1⟩ (ct l D g ad H.size) (n := n) ⟨⟨rfl, rfl, hR.1, hR.2, m_keep C m1, hmem, m_cx_in C m1', m_cx_in C m2, m3, hn2, m_cx_in C hk⟩, m5, m_cx_in C m6⟩ hpre rfl (by rw [List.length_map]; exact hn) hL rfl (lv_room hcat) hd hu) hF hLo kk
  · exact k_goes (va_runIN ⟨C.1, C.2.1, C.2.2.2.1, C.2.2.2.2.1, C.2.2.2.2.2.1⟩ (ct l D g ad H.size) (n := n) ⟨⟨⟨rfl, rfl, hR.1, hR.2, m_keep C m1, hmem⟩, m_cx_in C m1', m_cx_in C m2, m3, hn2, m_cx_in C hk⟩, m5, m_cx_in C m6⟩ hpre rfl (by rw [List.length_map]; exact hn) hL rfl (lv_room hcat) hd hu) hF hLo kk
def m_fldF (own : String) (idx ci k : Nat) (ty : FieldType) : Prop := ∃ (C : String) (T : u_T) (N : Nat) (ty0 : Nat → FieldType), vwCl[ci]? = some (C, T, N) ∧ k < N ∧ (∀ w ∈ u_ws C T N, m_in w) ∧ m_in (.fieldLink own idx (T k).1 (T k).2.1 (T k).2.2.1) ∧ (∀ k, k < N → parseFieldDescriptor (T k).2.2.1 = some (ty0 k)) ∧ (∀ a, a < N → ∀ b, b < N → a ≠ b → (T a).2.1 ≠ (T b).2.1) ∧ (T k).2.2.2 = true ∧ (T k).1 = own ∧ ty0 k = ty
section KROWS
variable {M : mM} {pc u v : Nat} {ls st : List Value} {h h' : List mC}
theorem kJ_iconst {n : Int} {x : Int32} (hd : decode M.2.1 pc = .ok (.iconst n, 1)) (hv : Int32.ofInt n = x) (k : kJ M (pc + 1) ls (.int x :: st) h u v h') : kJ M pc ls st h u v h' := by
  intro p l e s m args below meth c D g ad A H locs la n0 ad0 hn h0 hin C K hA hL hP hD hS
  exact lv_iconst C.1 C.2.1 hd hv (k p l e s m args below meth c D g ad A H locs la n0 ad0 hn h0 hin C K hA hL hP hD hS)
theorem kJ_bipush {n : Int} {x : Int32} (hd : decode M.2.1 pc = .ok (.bipush n, 2)) (hv : (Int8.ofInt n).toInt32 = x) (k : kJ M (pc + 2) ls (.int x :: st) h u v h') : kJ M pc ls st h u v h' := by
  intro p l e s m args below meth c D g ad A H locs la n0 ad0 hn h0 hin C K hA hL hP hD hS
  exact lv_bipush C.1 C.2.1 hd hv (k p l e s m args below meth c D g ad A H locs la n0 ad0 hn h0 hin C K hA hL hP hD hS)
theorem kJ_sipush {n : Int} {x : Int32} (hd : decode M.2.1 pc = .ok (.sipush n, 3)) (hv : (Int16.ofInt n).toInt32 = x) (k : kJ M (pc + 3) ls (.int x :: st) h u v h') : kJ M pc ls st h u v h' := by
  intro p l e s m args below meth c D g ad A H locs la n0 ad0 hn h0 hin C K hA hL hP hD hS
  exact lv_sipush C.1 C.2.1 hd hv (k p l e s m args below meth c D g ad A H locs la n0 ad0 hn h0 hin C K hA hL hP hD hS)
theorem kJ_iload_n {i : Fin 4} {x : Int32} (hd : decode M.2.1 pc = .ok (.iload_n i, 1)) (hl : ls[(i : Nat)]? = some (.int x)) (k : kJ M (pc + 1) ls (.int x :: st) h u v h') : kJ M pc ls st h u v h' := by
  intro p l e s m args below meth c D g ad A H locs la n0 ad0 hn h0 hin C K hA hL hP hD hS
  exact lv_iload_n C.1 C.2.1 hd rfl (hL.2.2 _ _ hl (fun z => by cases z)).2 (k p l e s m args below meth c D g ad A H locs la n0 ad0 hn h0 hin C K hA hL hP hD hS)
theorem kJ_aload_n {i : Fin 4} {x : Nat} (hd : decode M.2.1 pc = .ok (.aload_n i, 1)) (hl : ls[(i : Nat)]? = some (.ref x)) (k : kJ M (pc + 1) ls (.ref x :: st) h u v h') : kJ M pc ls st h u v h' := by
  intro p l e s m args below meth c D g ad A H locs la n0 ad0 hn h0 hin C K hA hL hP hD hS
  exact lv_aload_n C.1 C.2.1 hd rfl (hL.2.2 _ _ hl (fun z => by cases z)).2 (k p l e s m args below meth c D g ad A H locs la n0 ad0 hn h0 hin C K hA hL hP hD hS)
theorem kJ_dup {x : Value} (hd : decode M.2.1 pc = .ok (.dup, 1)) (hv : x.category = 1) (k : kJ M (pc + 1) ls (x :: x :: st) h u v h') : kJ M pc ls (x :: st) h u v h' := by
  intro p l e s m args below meth c D g ad A H locs la n0 ad0 hn h0 hin C K hA hL hP hD hS
  exact lv_dup C.1 C.2.1 hd ((m_cat ad x).trans hv) (k p l e s m args below meth c D g ad A H locs la n0 ad0 hn h0 hin C K hA hL hP hD hS)
theorem kJ_obj {idx a : Nat} (hd : decode M.2.1 pc = .ok (.invokespecial idx, 3)) (w1 : m_in (.methodLink M.1.cls idx Lib.objectInit)) (w2 : m_in (.instanceMethod Lib.objectInit)) (w3 : m_in (.code Lib.objectInit ⟨#[0xb1]⟩ 1 none)) (hf : 1 ≤ M.2.2.2.2.frames) (hl : (st.map fun v => v.category).sum + 12 ≤ M.2.2.2.2.locals) (k : kJ M (pc + 3) ls st h u v h') : kJ M pc ls (.ref a :: st) h u v h' := by
  intro p l e s m args below meth c D g ad A H locs la n0 ad0 hn h0 hin C K hA hL hP hD hS
  refine W.objInit (a := ad a) (rest := st.map (m_v ad)) C.1 C.2.1 C.2.2.2.2.1 (m_cx_in C w1) (m_cx_in C w2) (m_cx_in C w3) rfl (hL.1.trans C.2.2.2.1.symm) rfl hd hf ?_ (k p l e s m args below meth c D g ad A H locs la n0 ad0 hn h0 hin C K hA hL hP hD hS)
  rw [m_cats]
  show 2 * 0 + _ + 12 ≤ _
  omega
theorem kJ_max {idx : Nat} {x y z : Int32} (hd : decode M.2.1 pc = .ok (.invokestatic idx, 3)) (w1 : m_in (.methodLink M.1.cls idx Lib.Math.max.name)) (w2 : m_in (.static Lib.Math.max.name)) (w3 : m_in (.initialized "java/lang/Math")) (w4 : m_in (.code Lib.Math.max.name Lib.Math.max.code 2 (some .int))) (hf : 1 ≤ M.2.2.2.2.frames) (hl : (st.map fun v => v.category).sum + 13 ≤ M.2.2.2.2.locals) (hu : u ≤ M.2.2.2.2.cells) (hv : v ≤ M.2.2.2.2.slots) (hz : (if x < y then y else x) = z) (k : kJ M (pc + 3) ls (.int z :: st) h u v h') : kJ M pc ls (.int y :: .int x :: st) h u v h' := by
  subst hz
  intro p l e s m args below meth c D g ad A H locs la n0 ad0 hn h0 hin C K hA hL hP hD hS
  exact va_mmax C.1 C.2.1 (C.2.2.2.1.trans hL.1.symm) C.2.2.2.2.1 (m_cx_in C w1) (m_cx_in C w2) (m_cx_in C w3) (m_cx_in C w4) hf (by rw [m_cats]; exact hl) hu hv hd (k p l e s m args below meth c D g ad A H locs la n0 ad0 hn h0 hin C K hA hL hP hD hS)
theorem kJ_new {idx ci N k : Nat} {Cn : String} {Tn : u_T} {ty0 : Nat → FieldType} {fs : List Value} {h2 : List mC} (hd : decode M.2.1 pc = .ok (.new idx, 3)) (hw : ∀ w ∈ u_ws Cn Tn N, m_in w) (hty : ∀ k, k < N → parseFieldDescriptor (Tn k).2.2.1 = some (ty0 k)) (w1 : m_in (.classLink M.1.cls idx Cn)) (w2 : m_in (.instantiable Cn N)) (w3 : m_in (.initialized Cn)) (hc : vwCl[ci]? = some (Cn, Tn, N)) (hfs : ∀ j, j < N → defaultValue (ty0 j) = vp_V fs j) (hnr : m_cv 0 fs = true) (hu : u + 1 ≤ M.2.2.2.2.cells) (hv : v + N ≤ M.2.2.2.2.slots) (hk : h.length = k) (hcl : m_cl k h = true) (hls : m_cv k ls = true) (hst : m_cv k st = true) (h2e : h ++ [.inr (ci, fs)] = h2) (kk : kJ M (pc + 3) ls (.ref k :: st) h2 (u + 1) (v + N) h') : kJ M pc ls st h u v h' := by
  subst hk
  subst h2e
  intro p l e s m args below meth c D g ad A H locs la n0 ad0 hn h0 hin C K hA hL hP hD hS
  refine va_new C.1 C.2.1 C.2.2.2.2.2.1 (fun w q => m_in_tbl (hw w q)) ty0 hty C.2.2.2.2.1 (m_cx_in C w1) (m_cx_in C w2) (m_cx_in C w3) K hP hD hS hA hc hfs hu hv hd (fun q H1 hP1 hD1 hS1 => ?_)
  obtain ⟨ad1, ha, rfl⟩ := ad_push (ad := ad) h.length q
  have ew : m_w g ad h ++ [(ad1 h.length, .inr (ci, fs))] = m_w g ad1 (h ++ [.inr (ci, fs)]) := by
    rw [m_w_push, m_w_ext ha hcl]
    show _ = m_w g ad h ++ [(ad1 h.length, (Sum.inr (ci, fs.map (m_v ad1)) : va_E))]
    rw [m_nr hnr]
  rw [ew] at hP1 hD1
  rw [← m_vs_ext ha hst]
  exact kk p l e s m args below meth c D g ad1 A H1 locs la n0 ad0 (by rw [List.length_append]; omega) (fun i hi => (ha i (by omega)).trans (h0 i hi)) hin C K hA (m_lv_ext ha hls hL) hP1 hD1 hS1
theorem kJ_newa0 {n k : Nat} {x : Int32} {h2 : List mC} (hd : decode M.2.1 pc = .ok (.newarray .int, 2)) (w1 : m_in (.arrayClass .int)) (hx : nI n = x) (hn1 : n < 2 ^ 20) (hu : u + 1 ≤ M.2.2.2.2.cells) (hv : v + n ≤ M.2.2.2.2.slots) (hk : h.length = k) (hcl : m_cl k h = true) (hls : m_cv k ls = true) (hst : m_cv k st = true) (h2e : h ++ [.inl (0, n, zA)] = h2) (kk : kJ M (pc + 2) ls (.ref k :: st) h2 (u + 1) (v + n) h') : kJ M pc ls (.int x :: st) h u v h' := by
  subst hk
  subst h2e
  subst hx
  intro p l e s m args below meth c D g ad A H locs la n0 ad0 hn h0 hin C K hA hL hP hD hS
  refine va_newa (atype := .int) (ty := .int) (N' := n) (a0 := (n, .inl zA)) C.1 C.2.1 (m_cx_in C w1) rfl K hP hD hS hA (fun _ => rfl) (nI_pos (by omega)) (nI_clamp (by omega)) (by show n * 4 ≤ _; omega) hu hv hd (fun q cA H1 hK1 hP1 hD1 hS1 => ?_)
  have z1 : s.vm.findClass ("[" ++ FieldType.int.toString) = some cA := (hK1.2 1 (cA, .int) rfl).2
  have z2 : s.vm.findClass ("[" ++ FieldType.int.toString) = some (g 0) := (K.2 0 (g 0, .int) rfl).2
  have eA : cA = g 0 := Option.some.inj (z1.symm.trans z2)
  subst eA
  obtain ⟨ad1, ha, rfl⟩ := ad_push (ad := ad) h.length q
  have ew : m_w g ad h ++ [(ad1 h.length, .inl (g 0, n, .inl zA))] = m_w g ad1 (h ++ [.inl (0, n, zA)]) := by
    rw [m_w_push, m_w_ext ha hcl]
    rfl
  rw [ew] at hP1 hD1
  show W _ _ _ _ _ _ _ _ _ _ _ _ _ _ _ (F0 m (pc + 2) la (.ref (ad1 h.length) :: st.map (m_v ad)))
  rw [← m_vs_ext ha hst]
  exact kk p l e s m args below meth c D g ad1 A H1 locs la n0 ad0 (by rw [List.length_append]; omega) (fun i hi => (ha i (by omega)).trans (h0 i hi)) hin C K hA (m_lv_ext ha hls hL) hP1 hD1 hS1
theorem kJ_putF {a idx ci k i : Nat} {ty : FieldType} {fs : List Value} (hd : decode M.2.1 pc = .ok (.putfield idx, 3)) (hf : m_fldF M.1.cls idx ci k ty) (hc : h[a]? = some (.inr (ci, fs))) (hl : k < fs.length) (hn1 : ∀ z : Nat, narrow ty (.ref z) = .ref z) (hfit : ∀ z : Nat, fits ty (.ref z) = true) {h2 : List mC} (hs : h.set a (.inr (ci, fs.set k (.ref i))) = h2) (kk : kJ M (pc + 3) ls st h2 u v h') : kJ M pc ls (.ref i :: .ref a :: st) h u v h' := by
  subst hs
  intro p l e s m args below meth c D g ad A H locs la n0 ad0 hn h0 hin C K hA hL hP hD hS
  obtain ⟨C0, T, N, ty0, f1, f2, f3, f4, f5, f6, f7, f8, f9⟩ := hf
  have hw := m_w_at (g := g) (ad := ad) hc
  have eW : (m_w g ad h).set a (ad a, .inr (ci, (fs.map (m_v ad)).set k (.ref (ad i)))) = m_w g ad (h.set a (.inr (ci, fs.set k (.ref i)))) := by
    rw [← m_w_set]
    show _ = (m_w g ad h).set a (ad a, .inr (ci, (fs.set k (.ref i)).map (m_v ad)))
    rw [List.map_set]
    rfl
  refine va_putF C.1 C.2.1 C.2.2.2.2.2.1 (fun w hw => m_in_tbl (f3 w hw)) ty0 f5 f6 C.2.2.2.2.1 K hP hD hS a hw f1 k f2 (m_cx_in C f4) (fun _ z => z) f7 hin f8 (ty := ty) (v := .ref (ad i)) (by rw [f5 k f2, f9]) (hn1 _) (hfit _) (by rw [List.length_map]; exact hl) hd (fun H1 locs1 hP1 hD1 hS1 => ?_)
  rw [eW] at hP1 hD1
  exact kk p l e s m args below meth c D g ad A H1 locs1 la n0 ad0 (by rw [List.length_set]; exact hn) h0 hin C K hA hL hP1 hD1 hS1
theorem kJ_get {a idx ci k : Nat} {fs : List Value} {x : Value} (hd : decode M.2.1 pc = .ok (.getfield idx, 3)) (hf : m_fld M.1.cls idx ci k) (hc : h[a]? = some (.inr (ci, fs))) (hv : fs[k]? = some x) (kk : kJ M (pc + 3) ls (x :: st) h u v h') : kJ M pc ls (.ref a :: st) h u v h' := by
  intro p l e s m args below meth c D g ad A H locs la n0 ad0 hn h0 hin C K hA hL hP hD hS
  obtain ⟨C0, T, N, f1, f2, f3, f4⟩ := hf
  have hw := m_w_at (g := g) (ad := ad) hc
  have hv' : (fs.map (m_v ad))[k]? = some (m_v ad x) := by rw [List.getElem?_map, hv]; rfl
  rcases f4 with f4 | ⟨host, f4⟩
  · exact va_get C.1 C.2.1 C.2.2.2.2.2.1 (fun w hw => m_in_tbl (f3 w hw)) C.2.2.2.2.1 K hP a hw f1 k f2 (m_cx_in C f4) (fun _ z => z) hv' hd (kk p l e s m args below meth c D g ad A H locs la n0 ad0 hn h0 hin C K hA hL hP hD hS)
  · exact va_getN C.1 C.2.1 C.2.2.2.2.2.1 (fun w hw => m_in_tbl (f3 w hw)) C.2.2.2.2.1 K hP a hw f1 k f2 (m_cx_in C f4) (fun _ z => z) hv' hd (kk p l e s m args below meth c D g ad A H locs la n0 ad0 hn h0 hin C K hA hL hP hD hS)
theorem kJ_iast {a n : Nat} {f : Nat → Int32} {i x : Int32} (hd : decode M.2.1 pc = .ok (.iastore, 1)) (hc : h[a]? = some (.inl (0, n, f))) (hin1 : vp_in i n) {h2 : List mC} (hs : h.set a (.inl (0, n, upd f i.toNatClampNeg x)) = h2) (kk : kJ M (pc + 1) ls st h2 u v h') : kJ M pc ls (.int x :: .int i :: .ref a :: st) h u v h' := by
  subst hs
  intro p l e s m args below meth c D g ad A H locs la n0 ad0 hn h0 hin C K hA hL hP hD hS
  refine va_iast (tys := m_tys g) C.1 C.2.1 K hP hD hS a 0 (m_w_at (g := g) (ad := ad) hc) rfl hin1 hd (fun H1 locs1 hP1 hD1 hS1 => ?_)
  have eW : (m_w g ad h).set a (ad a, .inl (g 0, n, .inl (upd f i.toNatClampNeg x))) = m_w g ad (h.set a (.inl (0, n, upd f i.toNatClampNeg x))) := by rw [← m_w_set]; rfl
  rw [eW] at hP1 hD1
  exact kk p l e s m args below meth c D g ad A H1 locs1 la n0 ad0 (by rw [List.length_set]; exact hn) h0 hin C K hA hL hP1 hD1 hS1
theorem kJ_cI {M2 : mM} {idx n a : Nat} {As rest : List Value} {h2 : List mC} (hd : decode M.2.1 pc = .ok (.invokespecial idx, 3)) (hm : m_mei M2 n) (hk : m_lk M.1.cls idx M2.1) (hR : m_rm M M2) (hn1 : As.length = n) (hst : As.reverse ++ .ref a :: rest = st) (hcat : (rest.map fun v => v.category).sum ≤ 8) (hu : u + M2.2.2.2.2.cells ≤ M.2.2.2.2.cells ∧ v + M2.2.2.2.2.slots ≤ M.2.2.2.2.slots) (hls : m_cv h.length ls = true) (hrs : m_cv h.length rest = true) (ct : kCt M2 (.ref a :: As) h h2) {h3 : List mC} (he : h2 = h3) (hle : h.length ≤ h3.length) (kk : kJ M (pc + 3) ls rest h3 (u + M2.2.2.2.2.cells) (v + M2.2.2.2.2.slots) h') : kJ M pc ls st h u v h' := by
  subst he
  subst hst
  intro p l e s m args below meth c D g ad A H locs la n0 ad0 hn h0 hin C K hA hL hP hD hS
  have hF := m_fr (h := h) hD hS hA
  have hstk : (As.reverse ++ Value.ref a :: rest).map (m_v ad) = (As.map (m_v ad)).reverse ++ .ref (ad a) :: rest.map (m_v ad) := by simp [m_v]
  rw [hstk]
  refine l_cI (M := M) (A := A) hd hm hk hR hn1 (by rw [m_cats]; exact hcat) ct C K hL.1 hP (hD.weaken (fun _ _ _ _ => trivial)) hF hS.2.2 hu (fun ad1 H1 locs1 ha hP1 hD1 hsz hfr hlo => ?_)
  rw [← m_vs_ext ha hrs]
  exact kk p l e s m args below meth c D g ad1 A H1 locs1 la n0 ad0 (Nat.le_trans hn hle) (fun i hi => (ha i (by omega)).trans (h0 i hi)) hin C K hA (m_lv_ext ha hls hL) hP1 (hD1.weaken (fun _ q _ z => hF q.1 z)) ⟨Nat.le_trans hS.1 hsz, fun q q1 q2 => (hfr q (Nat.lt_of_lt_of_le q1 hS.1) (fun z => q2 (hF q z))).trans (hS.2.1 q q1 q2), hlo⟩
theorem kJ_cV {M2 : mM} {idx n a ci : Nat} {fs As rest : List Value} {r2 : Option Value} {h2 : List mC} (hd : decode M.2.1 pc = .ok (.invokevirtual idx, 3)) (hm : m_mev M2 n) (hk : m_lk M.1.cls idx M2.1) (hR : m_rm M M2) (hn1 : As.length = n) (hc : h[a]? = some (.inr (ci, fs))) (hcl : (vwCl[ci]?).map (fun q => q.1) = some M2.1.cls) (hst : As.reverse ++ .ref a :: rest = st) (hcat : (rest.map fun v => v.category).sum ≤ 8) (hu : u ≤ M.2.2.2.2.cells ∧ v ≤ M.2.2.2.2.slots) (ct : mCt M2 (.ref a :: As) h r2 h2) {h3 : List mC} (he : h2 = h3) (hle : h.length ≤ h3.length) (kk : kJ M (pc + 3) ls (r2.toList ++ rest) h3 u v h') : kJ M pc ls st h u v h' := by
  subst he
  subst hst
  intro p l e s m args below meth c D g ad A H locs la n0 ad0 hn h0 hin C K hA hL hP hD hS
  have hF := m_fr (h := h) hD hS hA
  have hstk : (As.reverse ++ Value.ref a :: rest).map (m_v ad) = (As.map (m_v ad)).reverse ++ .ref (ad a) :: rest.map (m_v ad) := by simp [m_v]
  rw [hstk]
  refine l_cV (M := M) (A := A) hd hm hk hR hn1 hc hcl (by rw [m_cats]; exact hcat) ct C K hL.1 hP (hD.weaken (fun _ _ _ _ => trivial)) hF hS.2.2 hu (fun H1 locs1 hP1 hD1 hsz hfr hlo => ?_)
  rw [m_app]
  exact kk p l e s m args below meth c D g ad A H1 locs1 la n0 ad0 (Nat.le_trans hn hle) h0 hin C K hA hL hP1 (hD1.weaken (fun _ q _ z => hF q.1 z)) ⟨Nat.le_trans hS.1 hsz, fun q q1 q2 => (hfr q (Nat.lt_of_lt_of_le q1 hS.1) (fun z => q2 (hF q z))).trans (hS.2.1 q q1 q2), hlo⟩
theorem kJ_vret (hd : decode M.2.1 pc = .ok (.return_, 1)) (hr : M.2.2.2.1 = none) (hh : h = h') (hu : u ≤ M.2.2.2.2.cells) (hv : v ≤ M.2.2.2.2.slots) : kJ M pc ls [] h u v h' := by
  subst hh
  intro p l e s m args below meth c D g ad A H locs la n0 ad0 hn h0 hin C K hA hL hP hD hS
  refine W.widen hu hv ?_
  exact W.vret C.1 C.2.1 (C.2.2.1.trans hr) (fun t ht hW => ⟨⟨rfl, ad, h0, by rw [ht]; exact hP, hD⟩, hS.F ht⟩) hS.2.2 hd C.2.2.2.2.2.2
end KROWS
