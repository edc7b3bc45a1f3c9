/-! THE LAW: what a call leaves alone -/
theorem m_w_ad {g : Nat → ClassId} {ad : Nat → Nat} {h : List mC} {i : Nat} {q : Nat × va_E} (hq : (m_w g ad h)[i]? = some q) : i < h.length ∧ q.1 = ad i := by
  unfold m_w at hq
  rw [List.getElem?_mapIdx] at hq
  obtain ⟨c, h1, h2⟩ := Option.map_eq_some_iff.mp hq
  subst h2
  exact ⟨(List.getElem?_eq_some_iff.mp h1).1, rfl⟩
/-- a call on one world leaves the other as it is -/
theorem l_other {D : va_G} {g : Nat → ClassId} {ad ad2 : Nat → Nat} {h k2 : List mC} {H H1 : Heap} (hP2 : va_P D vwCl (m_w g ad2 k2) H) (hdis : ∀ i j, i < h.length → j < k2.length → ad i ≠ ad2 j) (hfr : ∀ q : Nat, q < H.size → ¬ va_A (m_w g ad h) H.size q → H1[q]? = H[q]?) : va_P D vwCl (m_w g ad2 k2) H1 := by
  refine hP2.kept (fun k q hk => ?_)
  have hl := (hP2 k q hk).lt
  obtain ⟨k1, k3⟩ := m_w_ad hk
  refine hfr q.1 hl (fun z => ?_)
  rcases z with ⟨i, e, hi⟩ | z
  · obtain ⟨i1, i2⟩ := m_w_ad hi
    exact hdis i k i1 k1 (i2.symm.trans k3)
  · omega
