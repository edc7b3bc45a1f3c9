/-! THE LAW: a call of a method with a contract, beside another world, with room used -/
theorem l_goes {p : Program} {l : Launch} {e : Env} {R : Room} {s : State} {m : MethodId} {args : Array Value} {below : List Frame} {meth : Method} {c : Code} {H : Heap} {locs : List Loc} {Q : State → Prop} {la : Array Slot} {st0 rest : List Value} {D : va_G} {g : Nat → ClassId} {ad : Nat → Nat} {A A1 : Nat → Prop} {h2 : List mC} {r2 : Option Value} {a : Array Value} {free : Addr → Prop} {u v pc : Nat}
    (hr : va_Run p l e R s m args below meth c H locs u v 0 0 (F0 m pc la st0) rest (m_Q D g ad A1 r2 h2 a) free) (hf : ∀ q, free q → A q) (hLo : ∀ q ∈ locs, A q.base)
    (kk : ∀ (H1 : Heap) (locs1 : List Loc), va_P D vwCl (m_w g ad h2) H1 → va_D A1 (m_w g ad h2) → H.size ≤ H1.size → (∀ q : Nat, q < H.size → ¬ A1 q → H1[q]? = H[q]?) → (∀ q ∈ locs1, A q.base) → W p l e R s m args below meth c H1 locs1 u v Q (F0 m (pc + 3) la ((r2.map (m_v ad)).toList ++ rest))) : W p l e R s m args below meth c H locs u v Q (F0 m pc la st0) := by
  intro T hT X
  obtain ⟨v0, st₀, t, T', L, h0, X', hL, e1, e2, ⟨⟨hv, hP, hD⟩, hz, hk⟩, st⟩ := hr T hT X
  cases hv
  rw [h0] at hz hk
  obtain ⟨t2, a1, b1⟩ := kk T'.heap (locs ++ L) (by rw [e1]; exact hP) hD (by rw [e1]; exact hz) (fun q h1 h2 => by rw [e1]; exact hk q h1 h2) (fun q hq => (List.mem_append.mp hq).elim (hLo q) (fun h => hf _ (hL q h))) T' rfl X'
  exact ⟨t2, st t2 a1, b1⟩
theorem l_cV {M M2 : mM} {p : Program} {l : Launch} {e : Env} {s : State} {m : MethodId} {args : Array Value} {below : List Frame} {meth : Method} {c : Code} {H : Heap} {locs : List Loc} {Q : State → Prop} {la : Array Slot} {D : va_G} {g : Nat → ClassId} {ad : Nat → Nat} {A : Nat → Prop} {h h2 : List mC} {r2 : Option Value} {u v pc idx n a ci : Nat} {fs As : List Value} {rest : List Value}
    (hd : decode M.2.1 pc = .ok (.invokevirtual idx, 3)) (hm : m_mev M2 n) (hk : m_lk M.1.cls idx M2.1) (hR : m_rm M M2) (hn : As.length = n) (hc : h[a]? = some (.inr (ci, fs))) (hcl : (vwCl[ci]?).map (fun q => q.1) = some M2.1.cls) (hcat : (rest.map fun v => v.category).sum ≤ 8)
    (ct : mCt M2 (.ref a :: As) h r2 h2) (C : m_cx M p s m args meth c) (K : va_K D vwCl (m_tys g) s) (hL : la.size = M.2.2.1) (hP : va_P D vwCl (m_w g ad h) H) (hD : va_D (fun _ => True) (m_w g ad h)) (hF : ∀ q, va_A (m_w g ad h) H.size q → A q) (hLo : ∀ q ∈ locs, A q.base) (hu : u ≤ M.2.2.2.2.cells ∧ v ≤ M.2.2.2.2.slots)
    (kk : ∀ (H1 : Heap) (locs1 : List Loc), va_P D vwCl (m_w g ad h2) H1 → va_D (va_A (m_w g ad h) H.size) (m_w g ad h2) → H.size ≤ H1.size → (∀ q : Nat, q < H.size → ¬ va_A (m_w g ad h) H.size q → H1[q]? = H[q]?) → (∀ q ∈ locs1, A q.base) → W p l e M.2.2.2.2 s m args below meth c H1 locs1 u v Q (F0 m (pc + 3) la ((r2.map (m_v ad)).toList ++ rest))) :
    W p l e M.2.2.2.2 s m args below meth c H locs u v Q (F0 m pc la ((As.map (m_v ad)).reverse ++ .ref (ad a) :: rest)) := by
  obtain ⟨⟨m1, m2, m3, m4, m5, m6⟩, m7, m8⟩ := hm
  obtain ⟨cq, hcq, hcn⟩ := Option.map_eq_some_iff.mp hcl
  have hrcv := va_recv K hP hcq (m_w_at (g := g) (ad := ad) hc)
  have hn2 : ∀ sig, parseMethodDescriptor M2.1.desc = some sig → n = sig.parameters.length := fun sig h => by
    rw [h] at m4
    exact (Option.some.inj m4).symm
  have hpre : PreV s H cq.1 (ad a) (va_Pc ((.ref a :: As).map (m_v ad)) (fun U => U.heap.size = H.size ∧ va_P D vwCl (m_w g ad h) U.heap ∧ va_K D vwCl (m_tys g) U ∧ va_D (fun _ => True) (m_w g ad h))) (As.map (m_v ad)) :=
    ⟨m_blind, hrcv, fun U hU hW => ⟨rfl, by rw [hU], by rw [hU]; exact hP, va_K.moved hW.alike K, hD⟩⟩
  rcases hk with hk | ⟨host, hk⟩
  · exact l_goes (va_runV (C := cq.1) ⟨C.1, C.2.1, C.2.2.2.1, C.2.2.2.2.1, C.2.2.2.2.2.1⟩ (ct l D g ad H.size) (n := n) ⟨⟨m5, m6, hR.1, hR.2, m_keep C m1, List.mem_cons_self, m_cx_in C m1, m_cx_in C m2, m3, hn2, m_cx_in C hk⟩, m_cx_in C m7, by rw [hcn]; exact m_cx_in C m8⟩ hpre rfl (by rw [List.length_map]; exact hn) hL rfl (lv_room hcat) hd ⟨hu.1, hu.2⟩) hF hLo kk
  · exact l_goes (va_runVN (C := cq.1) ⟨C.1, C.2.1, C.2.2.2.1, C.2.2.2.2.1, C.2.2.2.2.2.1⟩ (ct l D g ad H.size) (n := n) ⟨⟨⟨m5, m6, hR.1, hR.2, m_keep C m1, List.mem_cons_self⟩, m_cx_in C m1, m_cx_in C m2, m3, hn2, m_cx_in C hk⟩, m_cx_in C m7, by rw [hcn]; exact m_cx_in C m8⟩ hpre rfl (by rw [List.length_map]; exact hn) hL rfl (lv_room hcat) hd ⟨hu.1, hu.2⟩) hF hLo kk
