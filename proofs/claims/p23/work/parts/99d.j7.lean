/-! THE JDK'S TEXTS: a number's letters are written, the last first -/
theorem ng_div {a : Nat} (ha : a < 2147483648) : (-(nI a)) / 100 = -(nI (a / 100)) := by
  apply Int32.toInt_inj.mp
  rw [Int32.toInt_div, ti_ng ha, ti_ng (by omega), show (100 : Int32).toInt = 100 from rfl, Int.neg_tdiv]
  have e : (a : Int).tdiv 100 = ((a / 100 : Nat) : Int) := by rw [Int.tdiv_eq_ediv_of_nonneg (by omega)]; omega
  rw [e]
  exact Int.bmod_eq_of_le (by omega) (by omega)
theorem ng_rem (a : Nat) : -(nI (a / 100)) * 100 - -(nI a) = nI (a % 100) := by
  have e : nI a = 100 * nI (a / 100) + nI (a % 100) := by
    rw [show (100 : Int32) = nI 100 from rfl, nI_mul, nI_add]
    congr 1
    omega
  rw [e]
  grind
theorem gc_d {w k r : Nat} (hr : r = w / 10 ^ (2 * k) % 100) : r % 10 = w / 10 ^ (2 * k) % 10 ∧ r / 10 = w / 10 ^ (2 * k + 1) % 10 := by
  subst hr
  refine ⟨by omega, ?_⟩
  rw [Nat.pow_succ, ← Nat.div_div_eq_div_mul]
  omega
/-- the last letters of w, from place c on, lie in the row -/
def GcI (m m1 : MG) (VK w sz c : Nat) : Prop := (∀ q, q ≠ VK → m1 q = m q) ∧ (∀ j, sz ≤ j → m1 VK j = m VK j) ∧ ∀ j, c ≤ j → j < sz → m1 VK j = nI (48 + w / 10 ^ (sz - 1 - j) % 10)
theorem GcI.w {m m1 : MG} {VK w sz c : Nat} (h : GcI m m1 VK w sz (c + 1)) (hc : c < sz) {d : Nat} (hd : d = w / 10 ^ (sz - 1 - c) % 10) : GcI m (wr m1 VK c (nI (48 + d))) VK w sz c := by
  obtain ⟨h1, h2, h3⟩ := h
  refine ⟨fun q hq => by rw [wr_row _ _ _ _ hq]; exact h1 q hq, fun j hj => by rw [wr_ne _ _ _ _ (Or.inr (by omega))]; exact h2 j hj, fun j j1 j2 => ?_⟩
  by_cases hj : j = c
  · rw [hj, wr_same, hd]
  · rw [wr_ne _ _ _ _ (Or.inr hj)]; exact h3 j (by omega) j2
