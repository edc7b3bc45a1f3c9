/-! THE START -/
def d0 (c : Nat) : Int32 := if c = 2 then 200 else if c = 3 then 120 else if c = 4 then 4 else if c = 5 then 6 else if c = 6 then 3 else if c = 7 then 1 else 0
def c0 (c : Nat) : Int32 := if c = 2 then 200 else if c = 3 then 120 else if c = 7 then 4 else if c = 8 then 6 else if c = 9 then 3 else if c = 10 then 1 else 0
theorem wX_0 : wX d0 0 0 0 := by
  refine ⟨by omega, by omega, by omega, fun c hc => ?_⟩
  refine ⟨?_, ?_, ?_, ?_, ?_, ?_, ?_, ?_, ?_, fun a ha => absurd ha (by omega), fun a ha => absurd ha (by omega), fun a ha => absurd ha (by omega), fun a ha => absurd ha (by omega), fun a ha => absurd ha (by omega), fun a ha => absurd ha (by omega), fun a ha => absurd ha (by omega), fun a ha => absurd ha (by omega), fun a ha => absurd ha (by omega), fun a ha => absurd ha (by omega)⟩
  · rintro rfl; decide
  · rintro rfl; decide
  · rintro rfl; decide
  · rintro (rfl | rfl) <;> exact ⟨by decide, by decide⟩
  · rintro (rfl | rfl) <;> exact ⟨by decide, by decide⟩
  · rintro rfl; exact ⟨by decide, by decide⟩
  · rintro rfl; exact ⟨by decide, by decide⟩
  · rintro rfl; exact ⟨by decide, by decide⟩
  · rintro (rfl | rfl) <;> exact ⟨by decide, by decide⟩
theorem c0_0 {c : Nat} (h : c < 2 ∨ (4 ≤ c ∧ c < 7) ∨ 11 ≤ c) : c0 c = 0 := by
  unfold c0
  rw [if_neg (by omega), if_neg (by omega), if_neg (by omega), if_neg (by omega), if_neg (by omega), if_neg (by omega)]
theorem d0_0 {c : Nat} (h : c < 2 ∨ 8 ≤ c) : d0 c = 0 := by
  unfold d0
  rw [if_neg (by omega), if_neg (by omega), if_neg (by omega), if_neg (by omega), if_neg (by omega), if_neg (by omega)]
theorem pX_0 : pX c0 d0 := by
  rintro i j (⟨h1, h2⟩ | ⟨h1, h2⟩ | ⟨h1, h2⟩ | ⟨k, hk, h1, h2⟩ | ⟨a, k, ha, hk, h1, h2⟩ | ⟨g, k, hg, hk, h1, h2⟩ | ⟨g, hg, h1, h2⟩)
  · subst h2
    rcases (show j = 0 ∨ j = 1 ∨ j = 2 ∨ j = 3 by omega) with rfl | rfl | rfl | rfl <;> decide
  · subst h1; subst h2; decide
  · subst h1; subst h2; decide
  · subst h1; subst h2
    rcases (show k = 0 ∨ k = 1 ∨ k = 2 ∨ k = 3 ∨ k = 4 by omega) with rfl | rfl | rfl | rfl | rfl <;> decide
  · rw [c0_0 (by omega), d0_0 (by omega)]
  · rw [c0_0 (by omega), d0_0 (by omega)]
  · rw [c0_0 (by omega), d0_0 (by omega)]
theorem rX_0 : rX c0 d0 0 0 0 0 := by
  refine ⟨wX_0, pX_0, fun _ => 0, 0, by decide, by omega, fun h hh => ⟨c0_0 (by omega), Nat.le_refl _⟩, fun h hh => absurd hh (by omega), fun i j _ hj => absurd hj (by omega)⟩
