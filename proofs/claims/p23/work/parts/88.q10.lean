/-! SET: where the tried poster's rows go; what the counts see of them -/
theorem sgS_c {s : MG} {p : Nat} {ky : Nat → Nat} (hky : ∀ i, i < nlO s p → 900 + nfO s + 5 ≤ ky i ∧ ky i < 1200) (k : Nat) : (k = 700 + 20 * p ∧ sgS s p ky k = 900) ∨ (k = 702 + 20 * p ∧ sgS s p ky k = 900 + nfO s + 2) ∨ (k = 703 + 20 * p ∧ sgS s p ky k = 900 + nfO s + 3) ∨ (k = 704 + 20 * p ∧ sgS s p ky k = 900 + nfO s + 4) ∨ (∃ i, i < nlO s p ∧ k = 710 + 20 * p + i ∧ sgS s p ky k = ky i ∧ 900 + nfO s + 5 ≤ ky i ∧ ky i < 1200) ∨ sgS s p ky k = k := by
  unfold sgS
  by_cases h0 : k = 700 + 20 * p
  · rw [if_pos h0]; exact Or.inl ⟨h0, rfl⟩
  rw [if_neg h0]
  by_cases h2 : k = 702 + 20 * p
  · rw [if_pos h2]; exact Or.inr (Or.inl ⟨h2, rfl⟩)
  rw [if_neg h2]
  by_cases h3 : k = 703 + 20 * p
  · rw [if_pos h3]; exact Or.inr (Or.inr (Or.inl ⟨h3, rfl⟩))
  rw [if_neg h3]
  by_cases h4 : k = 704 + 20 * p
  · rw [if_pos h4]; exact Or.inr (Or.inr (Or.inr (Or.inl ⟨h4, rfl⟩)))
  rw [if_neg h4]
  by_cases h5 : 710 + 20 * p ≤ k ∧ k < 710 + 20 * p + nlO s p
  · rw [if_pos h5]
    have hk := hky (k - (710 + 20 * p)) (by omega)
    exact Or.inr (Or.inr (Or.inr (Or.inr (Or.inl ⟨k - (710 + 20 * p), by omega, by omega, rfl, hk.1, hk.2⟩))))
  rw [if_neg h5]
  exact Or.inr (Or.inr (Or.inr (Or.inr (Or.inr rfl))))
theorem sgS_r {s : MG} {p : Nat} {ky : Nat → Nat} (hf5 : nfO s ≤ 5) (hky : ∀ i, i < nlO s p → 900 + nfO s + 5 ≤ ky i ∧ ky i < 1200) (k : Nat) (h6 : 600 ≤ k) (h9 : k < 900) : 600 ≤ sgS s p ky k ∧ sgS s p ky k < 1200 := by
  rcases sgS_c hky k with ⟨_, h⟩ | ⟨_, h⟩ | ⟨_, h⟩ | ⟨_, h⟩ | ⟨i, _, _, h, _, _⟩ | h <;> omega
theorem sgS_inj {s : MG} {p : Nat} {ky : Nat → Nat} (hf5 : nfO s ≤ 5) (hky : ∀ i, i < nlO s p → 900 + nfO s + 5 ≤ ky i ∧ ky i < 1200) (hmo : ∀ i j, j < i → i < nlO s p → ky j < ky i) (a b : Nat) (a9 : a < 900) (b9 : b < 900) (h : sgS s p ky a = sgS s p ky b) : a = b := by
  rcases sgS_c hky a with ⟨ha, ea⟩ | ⟨ha, ea⟩ | ⟨ha, ea⟩ | ⟨ha, ea⟩ | ⟨i, hi, ha, ea, _, _⟩ | ea <;> rcases sgS_c hky b with ⟨hb, eb⟩ | ⟨hb, eb⟩ | ⟨hb, eb⟩ | ⟨hb, eb⟩ | ⟨j, hj, hb, eb, _, _⟩ | eb <;> first | omega | (rcases Nat.lt_trichotomy i j with hij | hij | hij; (· have := hmo j i hij hj; omega); (· omega); (· have := hmo i j hij hi; omega))
theorem set_ln {s m2 : MG} {p pt : Nat} {a : List (Nat × TS) × (Nat → Int32)} {ky : Nat → Nat} (hI : IvM s) (hp : p < npO s) (hlen : a.1.length = nlO s p) (hpl : plO s p = some a) (hTL : TrL m2 900 (nfO s) a.1 (fun i => szw (wdO s (4 * p + i))) ky pt) (hpt : pt ≤ 940) : ∃ (fo tk : Nat → Nat), fo = lfn a.1 ∧ (∀ i, i < nlO s p → m2 (900 + nfO s + 2) i = nI (fo i) ∧ fo i < nfO s ∧ m2 (900 + nfO s + 4) i = nI (ky i) ∧ (600 ≤ ky i ∧ ky i < 1200) ∧ (900 + nfO s + 5 ≤ ky i ∧ ky i < 1200) ∧ LtR m2 (ky i) (szw (wdO s (4 * p + i))) (tk (4 * p + i))) ∧ (∀ i j, j < i → i < nlO s p → ky j < ky i) ∧ (∀ i, i < nlO s p → m2 (900 + nfO s + 3) i = lfl a.1 i) ∧ ∀ x, addP 1 fo tk (wdO s) p (s 7) (nlO s p) x = s 7 x + a.1.foldl spd (fun _ => 0) x := by
  have hf5 := (IvM_nf hI).1
  have hp6 := (IvM_np hI).1
  have hn4 := (IvM_nl hI (show p < 6 by omega)).2
  have hI9 := plM_I hf5 hI.2.2.1 hpl
  have h8 : ∀ i, i < nlO s p → ∀ t : Nat, t < 10 ^ szw (wdO s (4 * p + i)) → t < 2147483648 := fun i hi t ht => by
    have h9 : (10 : Nat) ^ szw (wdO s (4 * p + i)) ≤ 10 ^ 8 := Nat.pow_le_pow_right (by decide) (szw_8 (IvM_w8 hI (by omega)))
    omega
  refine ⟨lfn a.1, fun j => iz (lwd a.1 (j - 4 * p)), rfl, fun i hi => ?_, fun i j hj hi => ?_, fun i hi => ?_, fun x => ?_⟩
  · have hi9 := List.getElem?_eq_getElem (show i < a.1.length by omega)
    obtain ⟨l1, l2, l3, l4, l5, l6, t, l7, l8, l9⟩ := hTL i _ hi9
    have ef : lfn a.1 i = a.1[i].1 := by unfold lfn; rw [hi9]
    have et : iz (lwd a.1 (4 * p + i - 4 * p)) = t := by
      rw [Nat.add_sub_cancel_left]
      unfold lwd
      rw [hi9]
      show iz a.1[i].2.2.2 = t
      rw [l7, iz_nI (h8 i hi t l8)]
    show _ ∧ _ ∧ _ ∧ _ ∧ _ ∧ LtR m2 (ky i) _ (iz (lwd a.1 (4 * p + i - 4 * p)))
    rw [ef, et]
    exact ⟨l1, l6, l3, ⟨by omega, by omega⟩, ⟨l4.1, by omega⟩, l9⟩
  · have hi9 := List.getElem?_eq_getElem (show i < a.1.length by omega)
    exact (hTL i _ hi9).2.2.2.2.1 j hj
  · have hi9 := List.getElem?_eq_getElem (show i < a.1.length by omega)
    rw [(hTL i _ hi9).2.1]
    unfold lfl
    rw [hi9]
  · have h := spd_addP (L := a.1) (tk := fun j => iz (lwd a.1 (j - 4 * p))) (wd := wdO s) (p := p) (s 7) (fun i q hq d hd => ?_) (nlO s p) (by omega) x
    · rw [h, ← hlen, List.take_length]
    · have hi : i < a.1.length := (List.getElem?_eq_some_iff.mp hq).1
      obtain ⟨h1, w, h2, ⟨t, h3, h4, h5⟩, -, -⟩ := hI9.2 i q hq
      have hw : w = wdO s (4 * p + i) := by
        unfold wds at h2
        rw [List.getElem?_map, List.getElem?_range' (by omega)] at h2
        simpa using h2.symm
      subst hw
      have et : iz (lwd a.1 (4 * p + i - 4 * p)) = t := by
        rw [Nat.add_sub_cancel_left]
        unfold lwd
        rw [hq]
        show iz q.2.2.2 = t
        rw [h4, iz_nI (h8 i (by omega) t h3)]
      show _ = nI (cntD (iz (lwd a.1 (4 * p + i - 4 * p))) d _)
      rw [et]
      exact h5 d hd
theorem plO_mo {s : MG} {p : Nat} {a : List (Nat × TS) × (Nat → Int32)} (hpl : plO s p = some a) : ∀ x, x < 50 → a.2 x = a.1.foldl spd (fun _ => 0) x := by
  intro x hx
  unfold plO plM at hpl
  split at hpl
  · cases hpl
  · obtain ⟨L, hL1, hL2⟩ := plA_mo _ _ _ _ hpl
    rw [List.nil_append] at hL1
    rw [hL2, hL1]
    have key : ∀ (L : List (Nat × TS)) (f f' : Nat → Int32), (∀ x, x < 50 → f x = f' x) → ∀ x, x < 50 → L.foldl spd f x = L.foldl spd f' x := by
      intro L
      induction L with
      | nil => intro f f' h x hx; exact h x hx
      | cons q L ih =>
        intro f f' h x hx
        exact ih _ _ (fun y hy => by unfold spd; rw [h y hy]) x hx
    exact key L _ _ (fun y hy => by unfold moZ; rw [if_pos hy]) x hx
