/-! WHAT BREAKS: how often the law's own loop runs at a block -/
theorem mnI {x y : Int32} : (mn x y).toInt = if y.toInt < x.toInt then y.toInt else x.toInt := by
  unfold mn
  by_cases h : y < x
  · rw [if_pos h, if_pos ((i_lt _ _).mp h)]
  · rw [if_neg h, if_neg (fun z => h ((i_lt _ _).mpr z))]
theorem div400 {w : Int32} (h : 0 ≤ w.toInt) : (w / 400).toInt = w.toInt / 400 := by
  have h4 : (400 : Int32).toInt = 400 := rfl
  have hl := Int32.toInt_lt w
  rw [Int32.toInt_div, h4, Int.tdiv_eq_ediv_of_nonneg h, Int.bmod_eq_of_le] <;> omega
theorem sk_I {N : Nat} {s : MG} (hB : IvB N s) {p x : Nat} (hx : x < 50) (h4 : nlO s p ≤ 4) : (skO s p x).toInt = (s 7 x).toInt - (outO s p (x / 10) (x % 10) : Int) ∧ outO s p (x / 10) (x % 10) ≤ 40 := by
  have ho : outO s p (x / 10) (x % 10) ≤ 40 := Nat.le_trans (outN_le _ _ _ _ _ _ _) (by omega)
  obtain ⟨⟨b1, b2⟩, b3, b4, b5, b6⟩ := hB.2 x hx
  have hN := hB.1
  have e : (nI (outO s p (x / 10) (x % 10))).toInt = (outO s p (x / 10) (x % 10) : Int) := nI_toInt (by omega)
  refine ⟨?_, ho⟩
  unfold skO
  rw [ti_sub (by rw [e]; omega) (by rw [e]; omega), e]
theorem br_spec {N : Nat} {s : MG} (hB : IvB N s) {p x : Nat} (hx : x < 50) (h4 : nlO s p ≤ 4) : ∃ b : Nat, brO s p x = nI b ∧ b < 100000 ∧ ∀ i, i ≤ b → ((400 ≤ s 8 x - 400 * nI i ∧ skO s p x < s 6 x - nI i) ↔ i < b) := by
  obtain ⟨⟨b1, b2⟩, b3, b4, b5, b6⟩ := hB.2 x hx
  have hN := hB.1
  obtain ⟨e1, e2⟩ := sk_I hB hx h4 (p := p)
  have e3 : (s 6 x - skO s p x).toInt = (s 6 x).toInt - (skO s p x).toInt := ti_sub (by omega) (by omega)
  have e4 : (brO s p x).toInt = if (s 6 x).toInt - (skO s p x).toInt < (s 8 x).toInt / 400 then (s 6 x).toInt - (skO s p x).toInt else (s 8 x).toInt / 400 := by
    unfold brO
    rw [mnI, e3, div400 b5]
  have h0 : 0 ≤ (brO s p x).toInt ∧ (brO s p x).toInt ≤ (s 8 x).toInt / 400 ∧ (brO s p x).toInt ≤ (s 6 x).toInt - (skO s p x).toInt ∧ ((brO s p x).toInt = (s 8 x).toInt / 400 ∨ (brO s p x).toInt = (s 6 x).toInt - (skO s p x).toInt) := by
    rw [e4]
    split <;> omega
  have hb : ((iz (brO s p x) : Nat) : Int) = (brO s p x).toInt := by unfold iz; rw [Int32.toNatClampNeg]; omega
  refine ⟨iz (brO s p x), (nI_iz h0.1).symm, by omega, fun i hi => ?_⟩
  have ei : (nI i).toInt = i := nI_toInt (by omega)
  have e4' : (400 : Int32).toInt = 400 := rfl
  have em : (400 * nI i).toInt = 400 * (i : Int) := by
    rw [show (400 : Int32) = nI 400 from rfl, nI_mul, nI_toInt (by omega)]
    omega
  rw [i_le, i_lt, ti_sub (by rw [em]; omega) (by rw [em]; omega), ti_sub (by rw [ei]; omega) (by rw [ei]; omega), em, ei, e4']
  omega
theorem br_zero {s : MG} (hI : IvM s) (hF9 : IvF s) (hZ : IvZ s) {p x : Nat} (hp : p < npO s) (h15 : s 15 p = 1) (hx : 10 * nfO s ≤ x ∧ x < 50) : brO s p x = 0 := by
  have hf5 := (IvM_nf hI).1
  obtain ⟨z6, z7, z8⟩ := hZ x hx.1 hx.2
  have ho : ∀ k, k ≤ nlO s p → outN (s 18) (tkO s) (wdO s) p (x / 10) (x % 10) k = 0 := by
    intro k
    induction k with
    | zero => intro _; rfl
    | succ k ih =>
      intro hk
      obtain ⟨f, h1, h2⟩ := hF9 p k hp h15 (by omega)
      rw [outN, ih (by omega), h2, if_neg (fun z => by have := nI_inj (by omega) (by omega) z; omega)]
  unfold brO skO outO
  rw [z6, z7, z8, ho _ (Nat.le_refl _)]
  decide
theorem sumI_tail {f : Nat → Int32} {a b : Nat} (hab : a ≤ b) (h : ∀ x, a ≤ x → x < b → f x = 0) : sumI f b = sumI f a := by
  obtain ⟨d, rfl⟩ : ∃ d, b = a + d := ⟨b - a, by omega⟩
  induction d with
  | zero => rfl
  | succ d ih =>
    rw [← Nat.add_assoc, sumI, ih (by omega) (fun x h1 h2 => h x h1 (by omega)), h (a + d) (by omega) (by omega), Int32.add_zero]
/-- b blocks of each letter have broken so far -/
def Bb (N : Nat) (s m1 m2 : MG) (b : Nat → Int32) : Prop := (∀ k, k < 620 ∨ 670 ≤ k → m2 k = m1 k) ∧ (∀ k j, j ≠ 0 → j ≠ 2 → m2 k j = m1 k j) ∧ ∀ y, y < N → m2 (620 + y) 0 = s 6 y - b y ∧ m2 (620 + y) 2 = s 8 y - 400 * b y
theorem Bb.w {N : Nat} {s m1 m2 : MG} {b : Nat → Int32} (h : Bb N s m1 m2 b) (x : Nat) (hx : x < N) (hN : N ≤ 50) : Bb N s m1 (wr (wr m2 (620 + x) 0 (m2 (620 + x) 0 - 1)) (620 + x) 2 (m2 (620 + x) 2 - 400)) (upd b x (b x + 1)) := by
  refine ⟨fun k hk => by rw [wr_row _ _ _ _ (by omega), wr_row _ _ _ _ (by omega)]; exact h.1 k hk, fun k j h0 h2 => by rw [wr_ne _ _ _ _ (Or.inr h2), wr_ne _ _ _ _ (Or.inr h0)]; exact h.2.1 k j h0 h2, fun y hy => ?_⟩
  obtain ⟨h3, h4⟩ := h.2.2 y hy
  unfold upd
  by_cases hyx : y = x
  · subst hyx
    rw [if_pos rfl, wr_ne _ _ _ _ (Or.inr (by decide)), wr_same, wr_same, h3, h4]
    refine ⟨by grind, by grind⟩
  · rw [if_neg hyx, wr_row _ _ _ _ (by omega), wr_row _ _ _ _ (by omega)]
    exact ⟨h3, h4⟩
theorem Bb.c {N : Nat} {s m1 m2 : MG} {b b' : Nat → Int32} (h : Bb N s m1 m2 b) (hb : ∀ y, y < N → b y = b' y) : Bb N s m1 m2 b' := ⟨h.1, h.2.1, fun y hy => by rw [← hb y hy]; exact h.2.2 y hy⟩
/-- so many, of the letters ahead of x all that break, of x itself i -/
def brX (s : MG) (p x i : Nat) : Nat → Int32 := fun y => if y < x then brO s p y else if y = x then nI i else 0
theorem brX_s (s : MG) (p x i : Nat) : upd (brX s p x i) x (brX s p x i x + 1) = brX s p x (i + 1) := by
  funext y
  unfold upd brX
  by_cases h : y = x
  · subst h
    rw [if_pos rfl, if_neg (Nat.lt_irrefl _), if_pos rfl, if_neg (Nat.lt_irrefl _), if_pos rfl, nI_succ]
  · rw [if_neg h]
    by_cases h2 : y < x
    · rw [if_pos h2, if_pos h2]
    · rw [if_neg h2, if_neg h, if_neg h2, if_neg h]
theorem brX_n {s : MG} {p x i : Nat} (h : brO s p x = nI i) : brX s p x i = brX s p (x + 1) 0 := by
  funext y
  unfold brX
  by_cases h1 : y < x
  · rw [if_pos h1, if_pos (by omega)]
  · rw [if_neg h1]
    by_cases h2 : y = x
    · rw [if_pos h2, if_pos (by omega), h2, h]
    · rw [if_neg h2, if_neg (by omega)]
      by_cases h3 : y = x + 1
      · rw [if_pos h3]; rfl
      · rw [if_neg h3]
