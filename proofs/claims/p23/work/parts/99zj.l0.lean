/-! THE LAW: what its own checks ask -/
theorem plO_15 {s : MG} {p : Nat} {a : List (Nat × TS) × (Nat → Int32)} (hpl : plO s p = some a) : ¬ s 15 p = 1 := by
  intro h
  unfold plO plM at hpl
  rw [if_pos (Or.inl h)] at hpl
  cases hpl
theorem plO_none {s : MG} {p : Nat} (h : s 15 p = 1) : plO s p = none := by
  unfold plO plM
  rw [if_pos (Or.inl h)]
/-- nothing is told of a poster that is set -/
theorem would_n {s : MG} {p : Nat} (hp : p < 6) (h : s 15 p = 1) {v : Nat} (hv : v < 2) : anWould s (nI p) (nI v) = -1 := by
  unfold anWould
  rw [iz_nI (show p < 2147483648 by omega), plO_none h]
  by_cases h0 : nI v = 0
  · rw [if_pos h0]; unfold prP prT; rw [plO_none h]
  · rw [if_neg h0]; rfl
theorem cdW_0 {s : MG} {p v : Nat} (hI : IvM s) (hp : p < npO s) (hv : v < 2) : cdWould s (nI p) (nI v) = 0 := by
  have hp6 := (IvM_np hI).1
  unfold cdWould
  rw [isN_of hp (by omega), if_neg]
  have : inB (nI v) 0 1 = true := inB_of (n := 1) (by omega) (by decide)
  rw [this]; simp
theorem cdL_0 {s : MG} {p : Nat} (hI : IvM s) (hp : p < npO s) (h : s 15 p = 1) : cdLasts s (nI p) = 0 := by
  have hp6 := (IvM_np hI).1
  unfold cdLasts
  rw [isN_of hp (by omega), if_neg (by decide), iz_nI (show p < 2147483648 by omega), h, if_neg (by decide)]
theorem laO_400 (s : MG) (p : Nat) : ∀ n, (laO s p n).toInt ≤ 400 := by
  intro n
  induction n with
  | zero => show (400 : Int32).toInt ≤ 400; decide
  | succ n ih =>
    rw [laO]
    split
    · exact ih
    · unfold mn
      split
      · next h => rw [i_lt] at h; omega
      · exact ih
/-- a poster that was just set has the proof that was told -/
theorem prO_set {s : MG} {p : Nat} {a : List (Nat × TS) × (Nat → Int32)} (hI : IvM s) (hp : p < npO s) (hpl : plO s p = some a) : toldO (setG s p a) p 7 = prP s p := by
  have hf5 := (IvM_nf hI).1
  have hp6 := (IvM_np hI).1
  have h4 := (IvM_nl hI (show p < 6 by omega)).2
  have hI9 := plM_I hf5 hI.2.2.1 hpl
  have hlen : a.1.length = nlO s p := by rw [hI9.1, wds_len, Nat.sub_zero]
  have hnl : nlO (setG s p a) p = nlO s p := by unfold nlO; rw [setG_r (by decide)]
  have hwd : wdO (setG s p a) = wdO s := by
    funext j
    unfold wdO
    rw [setG_r (by decide)]
  have e15 : setG s p a 15 p = 1 := by rw [setG_15, if_pos rfl]
  have hin : ∀ k, k < nlO s p → 4 * p ≤ 4 * p + k ∧ 4 * p + k < 4 * p + a.1.length := fun k hk => by omega
  show prO (setG s p a) (wdO (setG s p a)) p (nlO (setG s p a) p) (iz (setG s p a 12 p)) = prP s p
  unfold prP prT prO
  rw [hpl, e15, if_neg (by decide), hnl, hwd, setG_r (z := 12) (by decide), setG_r (z := 10) (by decide), setG_r (z := 11) (by decide), setG_r (z := 5) (by decide)]
  have e1 : sumI (fun k => s 5 (iz (setG s p a 18 (4 * p + k))) * nI (szw (wdO s (4 * p + k)))) (nlO s p) = sumI (fun k => s 5 (lfn a.1 k) * nI (szw (wdO s (4 * p + k)))) (nlO s p) := sumI_cong _ (fun k hk => by
    have hq := List.getElem?_eq_getElem (show k < a.1.length by omega)
    have h5 : lfn a.1 k < 5 := by unfold lfn; rw [hq]; exact (hI9.2 k _ hq).1
    show s 5 (iz (setG s p a 18 (4 * p + k))) * _ = _
    rw [setG_18, if_pos (hin k hk), Nat.add_sub_cancel_left, iz_nI (by omega)])
  have e2 : flO (setG s p a) p (nlO s p) = flS a.1 := by
    unfold flO
    rw [e15, if_pos rfl, sumI_cong (h := fun k => lfl a.1 k) _ (fun k hk => by rw [setG_19, if_pos (hin k hk), Nat.add_sub_cancel_left]), flS_sum a.1 _ (by omega), ← hlen, List.take_length]
  rw [e1, e2]
theorem nxt_some {s : MG} (hI : IvM s) : ∀ n, ((nxt (prP s) n).1 = -1 ∧ (nxt (prP s) n).2 = -1) ∨ (∃ q, q < n ∧ (nxt (prP s) n).1 = nI q ∧ ∃ a, plO s q = some a) ∧ -1 ≤ (nxt (prP s) n).2.toInt := by
  intro n
  induction n with
  | zero => exact Or.inl ⟨rfl, rfl⟩
  | succ n ih =>
    rw [nxt]
    by_cases h : (nxt (prP s) n).2 < prP s n
    · rw [if_pos h]
      have h1 : -1 ≤ (nxt (prP s) n).2.toInt := by
        rcases ih with ⟨-, h2⟩ | ⟨-, h2⟩
        · rw [h2]; decide
        · exact h2
      rw [i_lt] at h
      refine Or.inr ⟨⟨n, Nat.lt_succ_self n, rfl, ?_⟩, by show -1 ≤ (prP s n).toInt; omega⟩
      cases hpl : plO s n with
      | some a => exact ⟨a, rfl⟩
      | none =>
        exfalso
        have : prP s n = -1 := by unfold prP prT; rw [hpl]
        rw [this] at h
        have : (-1 : Int32).toInt = -1 := by decide
        omega
    · rw [if_neg h]
      rcases ih with h1 | ⟨⟨q, hq, h2⟩, h3⟩
      · exact Or.inl h1
      · exact Or.inr ⟨⟨q, by omega, h2⟩, h3⟩
theorem cdSe_0 {s : MG} {p : Nat} {a : List (Nat × TS) × (Nat → Int32)} (hI : IvM s) (hp : p < npO s) (hpl : plO s p = some a) : cdSet s (nI p) = 0 := by
  have hp6 := (IvM_np hI).1
  unfold cdSet
  rw [isN_of hp (by omega), if_neg (by decide), iz_nI (show p < 2147483648 by omega), hpl]
theorem stSe_0 {s : MG} {p : Nat} {a : List (Nat × TS) × (Nat → Int32)} (hI : IvM s) (hp : p < npO s) (hpl : plO s p = some a) : stSet s (nI p) = setG s p a := by
  have hp6 := (IvM_np hI).1
  unfold stSet
  rw [isN_of hp (by omega), if_neg (by decide), iz_nI (show p < 2147483648 by omega), hpl]
theorem cdSt_0 {s : MG} {p : Nat} (hI : IvM s) (hp : p < npO s) (h : s 15 p = 1) : cdStrike s (nI p) = 0 := by
  have hp6 := (IvM_np hI).1
  unfold cdStrike
  rw [isN_of hp (by omega), if_neg (by decide), iz_nI (show p < 2147483648 by omega), h, if_neg (by decide)]
/-- the rows behind a strike -/
theorem stk_r {s : MG} {p : Nat} (hp : p < 6) (hcd : cdStrike s (nI p) = 0) : (∀ x, x < 50 → stStrike s (nI p) 7 x = skO s p x ∧ stStrike s (nI p) 6 x = s 6 x - brO s p x ∧ stStrike s (nI p) 8 x = s 8 x - 400 * brO s p x) ∧ (∀ j, stStrike s (nI p) 15 j = if j = p then 0 else s 15 j) ∧ (∀ j, stStrike s (nI p) 0 j = if j = 4 then s 0 4 + sumI (brO s p) 50 else s 0 j) ∧ ∀ k, k ≠ 0 → k ≠ 6 → k ≠ 7 → k ≠ 8 → k ≠ 15 → stStrike s (nI p) k = s k := by
  have ep : iz (nI p) = p := iz_nI (by omega)
  unfold stStrike
  rw [if_pos hcd, ep]
  refine ⟨fun x hx => ⟨?_, ?_, ?_⟩, fun j => rfl, fun j => rfl, fun k k0 k6 k7 k8 k15 => ?_⟩
  · show (if x < 50 then skO s p x else s 7 x) = _; rw [if_pos hx]
  · show (if x < 50 then s 6 x - brO s p x else s 6 x) = _; rw [if_pos hx]
  · show (if x < 50 then s 8 x - 400 * brO s p x else s 8 x) = _; rw [if_pos hx]
  · funext j
    show (if k = 7 then _ else if k = 6 then _ else if k = 8 then _ else if k = 15 then _ else if k = 0 then _ else s k j) = s k j
    rw [if_neg k7, if_neg k6, if_neg k8, if_neg k15, if_neg k0]
/-- set and struck at once: as many blocks out as ahead -/
theorem stk_out {N N2 : Nat} {s : MG} {p : Nat} {a : List (Nat × TS) × (Nat → Int32)} (hE : LE N s) (hp : p < npO s) (hpl : plO s p = some a) (hcd : cdStrike (setG s p a) (nI p) = 0) (hE2 : LE N2 (stStrike (setG s p a) (nI p))) : ∀ x, x < 50 → stStrike (setG s p a) (nI p) 7 x = s 7 x := by
  have hp6 := (IvM_np hE.1.1).1
  obtain ⟨-, r15, r0, rk⟩ := stk_r (by omega) hcd
  have h15 : s 15 p = 0 := (IvM_01 hE.1.1 (show p < 6 by omega)).resolve_right (plO_15 hpl)
  have hI9 := plM_I (IvM_nf hE.1.1).1 hE.1.1.2.2.1 hpl
  have hlen : a.1.length = nlO s p := by rw [hI9.1, wds_len, Nat.sub_zero]
  have k15 : ∀ j, setG s p a 15 j = if j = p then 1 else s 15 j := fun j => setG_15 j
  have k18 : ∀ j, ¬ (4 * p ≤ j ∧ j < 4 * p + a.1.length) → setG s p a 18 j = s 18 j := fun j hj => (setG_18 j).trans (if_neg hj)
  have k20 : ∀ j, ¬ (4 * p ≤ j ∧ j < 4 * p + a.1.length) → setG s p a 20 j = s 20 j := fun j hj => (setG_20 j).trans (if_neg hj)
  have kr : ∀ z, z ≠ 18 ∧ z ≠ 19 ∧ z ≠ 20 ∧ z ≠ 7 ∧ z ≠ 15 → setG s p a z = s z := fun z hz => setG_r hz
  generalize stStrike (setG s p a) (nI p) = s2 at *
  generalize setG s p a = s1 at *
  have e0 : s2 0 2 = s 0 2 := (r0 2).trans ((if_neg (by decide)).trans (congrFun (kr 0 (by decide)) 2))
  have e2 : npO s2 = npO s := congrArg iz e0
  have e14 : s2 14 = s 14 := (rk 14 (by decide) (by decide) (by decide) (by decide) (by decide)).trans (kr 14 (by decide))
  have e17 : s2 17 = s 17 := (rk 17 (by decide) (by decide) (by decide) (by decide) (by decide)).trans (kr 17 (by decide))
  have e18 : s2 18 = s1 18 := rk 18 (by decide) (by decide) (by decide) (by decide) (by decide)
  have e20 : s2 20 = s1 20 := rk 20 (by decide) (by decide) (by decide) (by decide) (by decide)
  intro x hx
  have a1 := hE2.2.1.2.1 x hx
  have a2 := hE.2.1.2.1 x hx
  rw [a1, a2, e2]
  refine sumI_cong _ (fun q hq => ?_)
  by_cases hqp : q = p
  · subst hqp
    have z1 : ouT s2 x q = 0 := if_neg (fun z => absurd ((r15 q).symm.trans z) (by rw [if_pos rfl]; decide))
    have z2 : ouT s x q = 0 := if_neg (fun z => absurd (h15.symm.trans z) (by decide))
    rw [z1, z2]
  · have h4 := (IvM_nl hE.1.1 (show p < 6 by omega)).2
    have hq4 := (IvM_nl hE.1.1 (show q < 6 by omega)).2
    have hs : ∀ j, j < nlO s q → ¬ (4 * p ≤ 4 * q + j ∧ 4 * q + j < 4 * p + a.1.length) := fun j hj => by omega
    exact ouT_c ((r15 q).trans ((if_neg hqp).trans ((k15 q).trans (if_neg hqp)))) (congrArg iz (congrFun e14 q)) (fun j hj => ⟨by rw [e18]; exact k18 _ (hs j hj), by rw [e20]; exact k20 _ (hs j hj), by rw [e17]⟩)
/-- no letter with a free block has a wear of 400 or more behind a strike -/
theorem stk_wear {N : Nat} {s : MG} {p : Nat} (hp : p < 6) (hB : IvB N s) (hcd : cdStrike s (nI p) = 0) (hB2 : IvB N (stStrike s (nI p)) ∨ True) {x : Nat} (hx : x < 50) (hf : ¬ stStrike s (nI p) 6 x - stStrike s (nI p) 7 x ≤ 0) : stStrike s (nI p) 8 x < 400 := by
  obtain ⟨r, -⟩ := stk_r hp hcd
  obtain ⟨r7, r6, r8⟩ := r x hx
  rw [r6, r7] at hf
  rw [r8]
  obtain ⟨hN, hb⟩ := hB
  obtain ⟨b7, b76, b6, b8, b8'⟩ := hb x hx
  unfold brO mn at hf ⊢
  by_cases h : s 6 x - skO s p x < s 8 x / 400
  · rw [if_pos h] at hf
    exact absurd (show s 6 x - (s 6 x - skO s p x) - skO s p x ≤ 0 by rw [show s 6 x - (s 6 x - skO s p x) - skO s p x = 0 by grind]; decide) hf
  · rw [if_neg h]
    obtain ⟨w, hw, he⟩ := ti_nI (b := 16000 * 2048) b8 (by omega) (by decide)
    rw [he, show (400 : Int32) = nI 400 from rfl, nI_div (by omega) (by decide), nI_mul, nI_sub (by omega)]
    rw [nI_ltI (by omega) (by decide)]
    omega
theorem sum_br {s : MG} {p : Nat} : sumI (fun x => s 6 x - brO s p x) 50 = sumI (s 6) 50 - sumI (brO s p) 50 := sumI_sub _ _ 50
theorem lg_self (x : Int64) : lg_cmp x x = 0 := by
  unfold lg_cmp
  simp
