/-! THE INVARIANTS: kept where the rows that they speak of are -/
theorem IvZ.c {s s' : MG} (h : IvZ s) (h0 : s' 0 1 = s 0 1) (hs : ∀ k, 6 ≤ k → k ≤ 8 → s' k = s k) : IvZ s' := by
  intro j h1 h2
  have e : nfO s' = nfO s := by unfold nfO; rw [h0]
  rw [e] at h1
  rw [hs 6 (by decide) (by decide), hs 7 (by decide) (by decide), hs 8 (by decide) (by decide)]
  exact h j h1 h2
theorem IvB.c {N : Nat} {s s' : MG} (h : IvB N s) (hN : N + 1 ≤ 2048) (hs : ∀ k, 6 ≤ k → k ≤ 8 → s' k = s k) : IvB (N + 1) s' := by
  refine ⟨hN, fun j hj => ?_⟩
  obtain ⟨⟨b1, b2⟩, b3, b4, b5, b6⟩ := h.2 j hj
  rw [hs 6 (by decide) (by decide), hs 7 (by decide) (by decide), hs 8 (by decide) (by decide)]
  exact ⟨⟨by omega, by omega⟩, b3, b4, b5, by omega⟩
theorem IvF.c {s s' : MG} (h : IvF s) (h1 : nfO s ≤ nfO s') (h2 : s' 0 2 = s 0 2) (hs : ∀ k, 14 ≤ k → k ≤ 18 → s' k = s k) : IvF s' := by
  intro p k hp h5 hk
  have e : npO s' = npO s := by unfold npO; rw [h2]
  have e2 : nlO s' p = nlO s p := by unfold nlO; rw [hs 14 (by decide) (by decide)]
  rw [e] at hp
  rw [hs 15 (by decide) (by decide)] at h5
  rw [e2] at hk
  rw [hs 18 (by decide) (by decide)]
  obtain ⟨f, hf, hfe⟩ := h p k hp h5 hk
  exact ⟨f, by omega, hfe⟩
