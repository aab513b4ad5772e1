/-! THE INVARIANTS: setOther, setTown -/
theorem IvM_setOther {s : MG} (h : IvM s) (k o : Int32) : IvM (stSetOther s k o) := by
  unfold stSetOther
  by_cases hcd : cdSetOther k o = 0
  · rw [if_pos hcd]
    unfold cdSetOther at hcd
    by_cases h1 : isN 10 k = false ∨ (¬ o = -1 ∧ isN 10 o = false)
    · rw [if_pos h1] at hcd; cases hcd
    · rw [if_neg h1] at hcd
      by_cases h2 : k = o
      · rw [if_pos h2] at hcd; cases hcd
      · have hk : isN 10 k = true := by cases hc : isN 10 k; (· exact absurd (Or.inl hc) h1); (· rfl)
        obtain ⟨e1, e2⟩ := isN_nI hk
        have ho : o = -1 ∨ isN 10 o = true := by
          by_cases h3 : o = -1
          · exact Or.inl h3
          · right
            cases hc : isN 10 o
            · exact absurd (Or.inr ⟨h3, hc⟩) h1
            · rfl
        obtain ⟨b1, b2, b3, b4⟩ := h
        refine ⟨b1, b2, fun l hl => ?_, b4⟩
        by_cases hlk : l = iz k
        · rw [hlk, wr_same]
          rcases ho with ho | ho
          · exact Or.inl ho
          · obtain ⟨e3, e4⟩ := isN_nI ho
            exact Or.inr ⟨iz o, e4, fun z => h2 (by rw [e1, e3, z]), e3⟩
        · rw [wr_ne _ _ _ _ (Or.inr hlk)]
          exact b3 l hl
  · rw [if_neg hcd]; exact h
theorem IvM_setTown {s : MG} (h : IvM s) (t p v : Int32) : IvM (stSetTown s t p v) := by
  unfold stSetTown
  split
  · obtain ⟨b1, b2, b3, b4⟩ := h
    exact ⟨b1, b2, b3, b4⟩
  · exact h
