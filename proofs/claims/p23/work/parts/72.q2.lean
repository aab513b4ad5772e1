/-! THE LAW'S STATE: kept where its rows are; after print, after strike -/
theorem PsL.c {s s' m m' : MG} {p : Nat} (h : PsL s m p) (h14 : s' 14 = s 14) (h17 : s' 17 = s 17) (h4 : nlO s p ≤ 4) (hm : ∀ k, k = 701 + 20 * p ∨ (705 + 20 * p ≤ k ∧ k < 709 + 20 * p) → m' k = m k) : PsL s' m' p := by
  have e : nlO s' p = nlO s p := by unfold nlO; rw [h14]
  unfold PsL isQ LtR isA wdO
  rw [e, h17, hm _ (Or.inl rfl)]
  refine ⟨h.1, fun q hq => ?_⟩
  rw [hm (705 + 20 * p + q) (Or.inr (by omega))]
  exact h.2 q hq
theorem PsX.c {s s' m m' : MG} {p : Nat} (h : PsX s m p) (h15 : s' 15 p = 1 → s 15 p = 1) (hs : ∀ k, (k = 14 ∨ (17 ≤ k ∧ k ≤ 20)) → s' k = s k) (h4 : nlO s p ≤ 4) (hm : ∀ k, (702 + 20 * p ≤ k ∧ k < 705 + 20 * p) ∨ (710 + 20 * p ≤ k ∧ k < 714 + 20 * p) → m' k = m k) : PsX s' m' p := by
  have e : nlO s' p = nlO s p := by unfold nlO; rw [hs 14 (by omega)]
  unfold PsX isQ LtR isA wdO tkO
  rw [e, hs 17 (by omega), hs 18 (by omega), hs 19 (by omega), hs 20 (by omega), hm (702 + 20 * p) (by omega), hm (703 + 20 * p) (by omega), hm (704 + 20 * p) (by omega)]
  refine ⟨h.1, ?_, h.2.2.1, fun z => ?_⟩
  · obtain ⟨n, h1, h2, h3⟩ := h.2.1
    exact ⟨n, h1, h2, fun z => h3 (h15 z)⟩
  · obtain ⟨h1, h2, h3⟩ := h.2.2.2 (h15 z)
    refine ⟨h1, h2, fun q hq => ?_⟩
    rw [hm (710 + 20 * p + q) (Or.inr (by omega))]
    exact h3 q hq
theorem SmF.c {s s' m m' : MG} (h : SmF s m) (hnf : nfO s' = nfO s) (hf5 : nfO s ≤ 5) (h5 : s' 5 = s 5) (hm : ∀ k, (601 ≤ k ∧ k ≤ 602) ∨ (610 ≤ k ∧ k < 615) → m' k = m k) : SmF s' m' := by
  unfold SmF isA isQ
  rw [hnf, h5, hm 601 (by omega), hm 602 (by omega)]
  refine ⟨h.1, h.2.1, fun f hf => ?_⟩
  rw [hm (610 + f) (Or.inr (by omega))]
  exact h.2.2 f hf
theorem SmO.c {s s' m m' : MG} (h : SmO s m) (h9 : s' 9 = s 9) (hm : m' 603 = m 603) : SmO s' m' := by
  unfold SmO isA
  rw [h9, hm]
  exact h
theorem SmT.c {s s' m m' : MG} (h : SmT s m) (h10 : s' 10 = s 10) (h11 : s' 11 = s 11) (hm : ∀ k, 604 ≤ k ∧ k < 610 ∧ k ≠ 605 → m' k = m k) : SmT s' m' := by
  unfold SmT isQ isA
  rw [h10, h11, hm 604 (by omega)]
  refine ⟨h.1, fun t ht => ?_⟩
  rw [hm (606 + t) (by omega)]
  exact h.2 t ht
theorem SimR.c {s s' m m' : MG} (h : SimR s m) (hnf : nfO s' = nfO s) (hnp : npO s' = npO s) (hp6 : npO s ≤ 6) (hf5 : nfO s ≤ 5) (hnl : ∀ p, p < 6 → nlO s p ≤ 4) (hs : ∀ k, (k = 5 ∨ (9 ≤ k ∧ k ≤ 14) ∨ (17 ≤ k ∧ k ≤ 20)) → s' k = s k) (h15 : ∀ p, p < npO s → s' 15 p = 1 → s 15 p = 1) (hm : ∀ k, 601 ≤ k → k < 900 → ¬ (620 ≤ k ∧ k < 670) → (∀ p, p < 6 → k ≠ 700 + 20 * p) → m' k = m k) (hS : SmS s' m') (hB : SmB s' m') (hP : ∀ p, p < npO s → PsF s' m' p) : SimR s' m' := by
  obtain ⟨-, h1, -, h2, h3, ⟨h4, h5⟩, h6⟩ := h
  refine ⟨hS, h1.c hnf hf5 (hs 5 (by omega)) (fun k hk => hm k (by omega) (by omega) (by omega) (fun p _ => by omega)), hB, h2.c (hs 9 (by omega)) (hm 603 (by decide) (by decide) (by decide) (fun p _ => by omega)), h3.c (hs 10 (by omega)) (hs 11 (by omega)) (fun k hk => hm k (by omega) (by omega) (by omega) (fun p _ => by omega)), ⟨?_, ?_⟩, fun p hp => ?_⟩
  · unfold isQ
    rw [hm 605 (by decide) (by decide) (by decide) (fun p _ => by omega), hnp]
    exact h4
  · intro p hp
    rw [hm 605 (by decide) (by decide) (by decide) (fun p _ => by omega)]
    rw [hnp] at hp
    exact h5 p hp
  · rw [hnp] at hp
    have hp' : p < 6 := by omega
    obtain ⟨-, g2, g3⟩ := h6 p hp
    exact ⟨hP p hp, g2.c (hs 14 (by omega)) (hs 17 (by omega)) (hnl p hp') (fun k hk => hm k (by omega) (by omega) (by omega) (fun q _ => by omega)), g3.c (h15 p hp) (fun k hk => hs k (by omega)) (hnl p hp') (fun k hk => hm k (by omega) (by omega) (by omega) (fun q _ => by omega))⟩
theorem SimR.L {s m : MG} (h : SimR s m) {p : Nat} (hp : p < npO s) : PsF s m p ∧ PsL s m p ∧ PsX s m p := h.2.2.2.2.2.2 p hp
theorem PsL.K {s m : MG} {p : Nat} (h : PsL s m p) (hF : PsF s m p) (hp : p < 6) (h4 : nlO s p ≤ 4) : LnK m (700 + 20 * p) (701 + 20 * p) (nlO s p) (fun q => 705 + 20 * p + q) (fun q => szw (wdO s (4 * p + q))) :=
  ⟨hF.2.2.2.1, ⟨by omega, by omega⟩, h.1, h4, fun q hq => ⟨(h.2 q hq).1, ⟨by show 600 ≤ 705 + 20 * p + q; omega, by show 705 + 20 * p + q < 1200; omega⟩, (h.2 q hq).2.1, szw_le⟩⟩
/-- after print -/
theorem Sim_print {s m m1 : MG} {p : Nat} {c : Int32} {v : Nat → Int32} (hI : IvM s) (hR : SimR s m) (hp : p < npO s) (hcd : cdPrint s (nI p) c = 0) (hB : Bk (10 * nfO s) m m1 2 v) (hv : ∀ x, x < 10 * nfO s → v x = s 8 x + c * nI (outO s p (x / 10) (x % 10))) : SimR (stPrint s (nI p) c) (wr (wr m1 (700 + 20 * p) 4 (s 16 p + c)) 600 0 (s 0 3 + gtO s p c)) := by
  have hp6 := (IvM_np hI).1
  have hf5 := (IvM_nf hI).1
  have ep : iz (nI p) = p := iz_nI (by omega)
  unfold stPrint
  rw [if_pos hcd, ep]
  generalize hs' : wr (wr (rwr s 8 (fun j => if j < 50 then s 8 j + c * nI (outO s p (j / 10) (j % 10)) else s 8 j)) 0 3 (s 0 3 + gtO s p c)) 16 p (s 16 p + c) = s'
  have e0 : ∀ k, k ≠ 0 → k ≠ 8 → k ≠ 16 → s' k = s k := fun k k0 k8 k16 => by rw [← hs', wr_row _ _ _ _ k16, wr_row _ _ _ _ k0, rwr_ne _ _ _ k8]
  have e00 : ∀ j, j ≠ 3 → s' 0 j = s 0 j := fun j hj => by rw [← hs', wr_row _ _ _ _ (by decide), wr_ne _ _ _ _ (Or.inr hj), rwr_ne _ _ _ (by decide)]
  have e03 : s' 0 3 = s 0 3 + gtO s p c := by rw [← hs', wr_row _ _ _ _ (by decide), wr_same]
  have e8 : ∀ x, x < 50 → s' 8 x = s 8 x + c * nI (outO s p (x / 10) (x % 10)) := fun x hx => by
    rw [← hs', wr_row _ _ _ _ (by decide), wr_row _ _ _ _ (by decide), rwr_same, if_pos hx]
  have e16 : ∀ q, s' 16 q = if q = p then s 16 p + c else s 16 q := fun q => by
    rw [← hs']
    by_cases hq : q = p
    · rw [if_pos hq, hq, wr_same]
    · rw [if_neg hq, wr_ne _ _ _ _ (Or.inr hq), wr_row _ _ _ _ (by decide), rwr_ne _ _ _ (by decide)]
  have enf : nfO s' = nfO s := by unfold nfO; rw [e00 1 (by decide)]
  have enp : npO s' = npO s := by unfold npO; rw [e00 2 (by decide)]
  generalize hm' : wr (wr m1 (700 + 20 * p) 4 (s 16 p + c)) 600 0 (s 0 3 + gtO s p c) = m'
  have em : ∀ k, k ≠ 600 → k ≠ 700 + 20 * p → m' k = m1 k := fun k h1 h2 => by rw [← hm', wr_row _ _ _ _ h1, wr_row _ _ _ _ h2]
  refine hR.c enf enp hp6 hf5 (fun q hq => (IvM_nl hI hq).2) (fun k hk => e0 k (by omega) (by omega) (by omega)) (fun q hq => by rw [e0 15 (by decide) (by decide) (by decide)]; exact id) (fun k h1 h2 h3 h4 => by rw [em k (by omega) (h4 p (by omega))]; exact hB.1 k (by omega)) ?_ ?_ ?_
  · obtain ⟨g1, g2, g3, g4⟩ := hR.1
    have e6 : ∀ j, j ≠ 0 → m' 600 j = m 600 j := fun j hj => by rw [← hm', wr_ne _ _ _ _ (Or.inr hj), wr_row _ _ _ _ (by omega), hB.1 600 (by omega)]
    unfold SmS
    rw [e6 _ (by decide), e6 1 (by decide), e6 2 (by decide), e6 3 (by decide), e6 4 (by decide), e6 5 (by decide), e6 6 (by decide), e03, e00 4 (by decide)]
    exact ⟨g1, by rw [← hm', wr_same], g3, g4⟩
  · intro f k hf hk
    rw [enf] at hf
    obtain ⟨g1, g2, g3, g4⟩ := hR.2.2.1 f k hf hk
    have ek : 620 + 10 * f + k = 620 + (10 * f + k) := by omega
    unfold isA
    rw [em _ (by omega) (by omega), e0 6 (by decide) (by decide) (by decide), e0 7 (by decide) (by decide) (by decide), e8 _ (by omega), hB.2.1 _ _ (by decide), hB.2.1 _ 100001 (by decide), hB.2.1 _ 0 (by decide), hB.2.1 _ 1 (by decide)]
    refine ⟨g1, g2, g3, ?_⟩
    rw [ek, hB.2.2 _ (by omega), hv _ (by omega)]
  · intro q hq
    obtain ⟨⟨g1, g2, g3, g4, g5, g6, g7⟩, -⟩ := hR.L hq
    have e7 : ∀ j, (q = p → j ≠ 4) → m' (700 + 20 * q) j = m (700 + 20 * q) j := fun j hj => by
      rw [← hm', wr_row _ _ _ _ (by omega)]
      by_cases hqp : q = p
      · rw [hqp, wr_ne _ _ _ _ (Or.inr (hj hqp)), hB.1 _ (by omega)]
      · rw [wr_row _ _ _ _ (by omega), hB.1 _ (by omega)]
    unfold PsF
    rw [e7 _ (fun _ => by decide), e7 0 (fun _ => by decide), e7 1 (fun _ => by decide), e7 2 (fun _ => by decide), e7 3 (fun _ => by decide), e7 5 (fun _ => by decide), e7 6 (fun _ => by decide), e7 7 (fun _ => by decide), e0 12 (by decide) (by decide) (by decide), e0 13 (by decide) (by decide) (by decide), e0 15 (by decide) (by decide) (by decide), e16]
    refine ⟨g1, g2, g3, g4, g5, ?_, g7⟩
    by_cases hqp : q = p
    · rw [if_pos hqp, ← hm', hqp, wr_row _ _ _ _ (by omega), wr_same]
    · rw [if_neg hqp, e7 4 (fun z => absurd z hqp), g6]
/-- after strike: m' holds the blocks that are left -/
theorem Sim_strike {s m m' : MG} {p : Nat} (hI : IvM s) (hR : SimR s m) (hp : p < npO s) (hcd : cdStrike s (nI p) = 0) (hm : ∀ k, 601 ≤ k → k < 900 → ¬ (620 ≤ k ∧ k < 670) → (∀ q, q < 6 → k ≠ 700 + 20 * q) → m' k = m k) (h6 : (∀ j, j ≠ 1 → m' 600 j = m 600 j) ∧ m' 600 1 = s 0 4 + sumI (brO s p) 50) (h7 : ∀ q j, q < 6 → ¬ (q = p ∧ j = 3) → m' (700 + 20 * q) j = m (700 + 20 * q) j) (h73 : m' (700 + 20 * p) 3 = 0)
    (hB : ∀ x, x < 10 * nfO s → (∀ j, 3 ≤ j → m' (620 + x) j = m (620 + x) j) ∧ m' (620 + x) 0 = s 6 x - brO s p x ∧ m' (620 + x) 1 = skO s p x ∧ m' (620 + x) 2 = s 8 x - 400 * brO s p x) : SimR (stStrike s (nI p)) m' := by
  have hp6 := (IvM_np hI).1
  have hf5 := (IvM_nf hI).1
  have ep : iz (nI p) = p := iz_nI (by omega)
  unfold stStrike
  rw [if_pos hcd, ep]
  generalize hs' : (fun k j : Nat => if k = 7 then (if j < 50 then skO s p j else s 7 j) else if k = 6 then (if j < 50 then s 6 j - brO s p j else s 6 j) else if k = 8 then (if j < 50 then s 8 j - 400 * brO s p j else s 8 j) else if k = 15 then (if j = p then 0 else s 15 j) else if k = 0 then (if j = 4 then s 0 4 + sumI (brO s p) 50 else s 0 j) else s k j) = s'
  have e0 : ∀ k, k ≠ 0 → k ≠ 6 → k ≠ 7 → k ≠ 8 → k ≠ 15 → s' k = s k := fun k k0 k6 k7 k8 k15 => by
    funext j
    rw [← hs']
    show (if k = 7 then _ else _) = _
    rw [if_neg k7, if_neg k6, if_neg k8, if_neg k15, if_neg k0]
  have e00 : ∀ j, j ≠ 4 → s' 0 j = s 0 j := fun j hj => by rw [← hs']; exact if_neg hj
  have e04 : s' 0 4 = s 0 4 + sumI (brO s p) 50 := by rw [← hs']; rfl
  have e15 : ∀ q, s' 15 q = if q = p then 0 else s 15 q := fun q => by rw [← hs']; rfl
  have e7 : ∀ x, x < 50 → s' 7 x = skO s p x := fun x hx => by rw [← hs']; exact if_pos hx
  have e6 : ∀ x, x < 50 → s' 6 x = s 6 x - brO s p x := fun x hx => by rw [← hs']; exact if_pos hx
  have e8 : ∀ x, x < 50 → s' 8 x = s 8 x - 400 * brO s p x := fun x hx => by rw [← hs']; exact if_pos hx
  have enf : nfO s' = nfO s := by unfold nfO; rw [e00 1 (by decide)]
  have enp : npO s' = npO s := by unfold npO; rw [e00 2 (by decide)]
  refine hR.c enf enp hp6 hf5 (fun q hq => (IvM_nl hI hq).2) (fun k hk => e0 k (by omega) (by omega) (by omega) (by omega) (by omega)) (fun q hq h1 => ?_) hm ?_ ?_ ?_
  · rw [e15] at h1
    by_cases hqp : q = p
    · rw [if_pos hqp] at h1
      exact absurd h1 (by decide)
    · rw [if_neg hqp] at h1
      exact h1
  · obtain ⟨g1, g2, g3, g4⟩ := hR.1
    unfold SmS
    rw [h6.1 _ (by decide), h6.1 0 (by decide), h6.1 2 (by decide), h6.1 3 (by decide), h6.1 4 (by decide), h6.1 5 (by decide), h6.1 6 (by decide), e04, e00 3 (by decide)]
    exact ⟨g1, g2, h6.2, g4⟩
  · intro f k hf hk
    rw [enf] at hf
    obtain ⟨g1, g2, g3, g4⟩ := hR.2.2.1 f k hf hk
    have ek : 620 + 10 * f + k = 620 + (10 * f + k) := by omega
    obtain ⟨b1, b2, b3, b4⟩ := hB (10 * f + k) (by omega)
    unfold isA at g1 ⊢
    rw [ek] at g1 ⊢
    rw [b1 _ (by decide), b1 100001 (by decide), e6 _ (by omega), e7 _ (by omega), e8 _ (by omega)]
    exact ⟨g1, b2, b3, b4⟩
  · intro q hq
    obtain ⟨⟨g1, g2, g3, g4, g5, g6, g7⟩, -⟩ := hR.L hq
    have hq6 : q < 6 := by omega
    unfold PsF
    rw [h7 q _ hq6 (by omega), h7 q 0 hq6 (by omega), h7 q 1 hq6 (by omega), h7 q 2 hq6 (by omega), h7 q 4 hq6 (by omega), h7 q 5 hq6 (by omega), h7 q 6 hq6 (by omega), h7 q 7 hq6 (by omega), e0 12 (by decide) (by decide) (by decide) (by decide) (by decide), e0 13 (by decide) (by decide) (by decide) (by decide) (by decide), e0 16 (by decide) (by decide) (by decide) (by decide) (by decide), e15]
    refine ⟨g1, g2, g3, g4, ?_, g6, g7⟩
    by_cases hqp : q = p
    · rw [if_pos hqp, hqp, h73]
    · rw [if_neg hqp, h7 q 3 hq6 (by omega), g5]
