/-! COUNTS: what is added to a row of blocks, letter by letter, line by line -/
/-- the rows of blocks, but for one place of theirs, are as they were; there they are v -/
def Bk (N : Nat) (m m' : MG) (pl : Nat) (v : Nat → Int32) : Prop := (∀ k, k < 620 ∨ 670 ≤ k → m' k = m k) ∧ (∀ k j, j ≠ pl → m' k j = m k j) ∧ ∀ x, x < N → m' (620 + x) pl = v x
theorem Bk.rf {N : Nat} {m : MG} {pl : Nat} {v : Nat → Int32} (h : ∀ x, x < N → m (620 + x) pl = v x) : Bk N m m pl v := ⟨fun _ _ => rfl, fun _ _ _ => rfl, h⟩
theorem Bk.w {N : Nat} {m m' : MG} {pl : Nat} {v : Nat → Int32} (h : Bk N m m' pl v) (x : Nat) (hx : x < 50) (y : Int32) : Bk N m (wr m' (620 + x) pl y) pl (upd v x y) := by
  refine ⟨fun k hk => by rw [wr_row _ _ _ _ (by omega)]; exact h.1 k hk, fun k j hj => by rw [wr_ne _ _ _ _ (Or.inr hj)]; exact h.2.1 k j hj, fun z hz => ?_⟩
  unfold upd
  by_cases hzx : z = x
  · rw [if_pos hzx, hzx, wr_same]
  · rw [if_neg hzx, wr_row _ _ _ _ (by omega)]
    exact h.2.2 z hz
theorem Bk.c {N : Nat} {m m' : MG} {pl : Nat} {v v' : Nat → Int32} (h : Bk N m m' pl v) (hv : ∀ x, x < N → v x = v' x) : Bk N m m' pl v' := ⟨h.1, h.2.1, fun x hx => (h.2.2 x hx).trans (hv x hx)⟩
/-- the first j letters of t, n letters in all: each adds d at its block of fount f -/
def addL (d : Int32) (f n t : Nat) (v : Nat → Int32) : Nat → Nat → Int32
  | 0 => v
  | j + 1 => upd (addL d f n t v j) (10 * f + t / 10 ^ (n - 1 - j) % 10) (addL d f n t v j (10 * f + t / 10 ^ (n - 1 - j) % 10) + d)
/-- how often c stands among the first j letters -/
def cntP (t n c : Nat) : Nat → Nat
  | 0 => 0
  | j + 1 => cntP t n c j + (if t / 10 ^ (n - 1 - j) % 10 = c then 1 else 0)
theorem cntP_D (t n c : Nat) : ∀ j, j ≤ n → cntP t n c j + cntD t c (n - j) = cntD t c n := by
  intro j
  induction j with
  | zero => intro _; simp [cntP]
  | succ j ih =>
    intro hj
    rw [← ih (by omega), cntP, show n - j = (n - (j + 1)) + 1 by omega, cntD, show n - 1 - j = n - (j + 1) by omega]
    omega
theorem cntP_n (t n c : Nat) : cntP t n c n = cntD t c n := by
  have := cntP_D t n c n (Nat.le_refl n)
  rw [Nat.sub_self, cntD] at this
  omega
theorem mul_s (d : Int32) (c : Nat) : d * nI (c + 1) = d * nI c + d := by
  rw [nI_succ]
  grind
theorem addL_v (d : Int32) (f n t : Nat) (v : Nat → Int32) : ∀ j x, addL d f n t v j x = v x + d * nI (if x / 10 = f then cntP t n (x % 10) j else 0) := by
  intro j
  induction j with
  | zero =>
    intro x
    rw [addL, cntP, ite_self, show nI 0 = (0 : Int32) from rfl, Int32.mul_zero, Int32.add_zero]
  | succ j ih =>
    intro x
    rw [addL]
    unfold upd
    have hd : t / 10 ^ (n - 1 - j) % 10 < 10 := Nat.mod_lt _ (by decide)
    by_cases hx : x = 10 * f + t / 10 ^ (n - 1 - j) % 10
    · have e1 : x / 10 = f := by omega
      have e2 : x % 10 = t / 10 ^ (n - 1 - j) % 10 := by omega
      rw [if_pos hx, ← hx, ih x, if_pos e1, if_pos e1, cntP, if_pos e2.symm, mul_s, Int32.add_assoc]
    · rw [if_neg hx, ih x]
      by_cases e1 : x / 10 = f
      · rw [if_pos e1, if_pos e1, cntP, if_neg (fun h => hx (by omega)), Nat.add_zero]
      · rw [if_neg e1, if_neg e1]
/-- the first i lines of a poster -/
def addP (d : Int32) (fo : Nat → Nat) (tk wd : Nat → Nat) (p : Nat) (v : Nat → Int32) : Nat → Nat → Int32
  | 0 => v
  | i + 1 => addL d (fo i) (szw (wd (4 * p + i))) (tk (4 * p + i)) (addP d fo tk wd p v i) (szw (wd (4 * p + i)))
theorem addP_v (d : Int32) (fo : Nat → Nat) (fr : Nat → Int32) (tk wd : Nat → Nat) (p nl : Nat) (hfo : ∀ i, i < nl → fr (4 * p + i) = nI (fo i) ∧ fo i < 5) (v : Nat → Int32) : ∀ i, i ≤ nl → ∀ x, x < 50 → addP d fo tk wd p v i x = v x + d * nI (outN fr tk wd p (x / 10) (x % 10) i) := by
  intro i
  induction i with
  | zero =>
    intro _ x _
    rw [addP, outN, show nI 0 = (0 : Int32) from rfl, Int32.mul_zero, Int32.add_zero]
  | succ i ih =>
    intro hi x hx
    obtain ⟨e1, e2⟩ := hfo i (by omega)
    rw [addP, addL_v, ih (by omega) x hx, outN, e1]
    have e3 : (nI (fo i) = nI (x / 10)) ↔ x / 10 = fo i := by rw [nI_eq (by omega) (by omega)]; exact eq_comm
    by_cases h : x / 10 = fo i
    · rw [if_pos h, if_pos (e3.mpr h), cntP_n, ← nI_add]
      grind
    · rw [if_neg h, if_neg (fun z => h (e3.mp z)), Nat.add_zero, show nI 0 = (0 : Int32) from rfl]
      grind
