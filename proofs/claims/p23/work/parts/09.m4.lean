/-! THE REFERENCE: a poster that is tried -/
abbrev OK : Type := (Nat → Int32) → Nat → Nat → Int32 → Bool
def okA (bl ou : Nat → Int32) : OK := fun mo f k x => decide (0 < bl (10 * f + k) - ou (10 * f + k) - mo (10 * f + k) - x)
theorem okM_A (g : MG) (f : Nat) : okM g f = okA (g 6) (g 7) (g 21) f := rfl
def fvF (okf : OK) (ot : Nat → Int32) (mo : Nat → Int32) (w f : Nat) : Int32 := trv (tlR (okf mo f) ot w (szw w) ts0)
theorem fvM_F (g : MG) (w : Nat) : fvM g w = fvF (okA (g 6) (g 7)) (g 9) (g 21) w := rfl
def boF (okf : OK) (ot ht : Nat → Int32) (tall : Int32) (nf : Nat) (mo : Nat → Int32) (w : Nat) : Int32 := (bo (fvF okf ot mo w) ht tall nf 0 (0, -1)).2
def pl1 (okf : OK) (ot ht : Nat → Int32) (tall : Int32) (nf : Nat) (mo : Nat → Int32) (w : Nat) : Option (Nat × TS) :=
  if boF okf ot ht tall nf mo w = -1 then none else (tlR (okf mo (iz (boF okf ot ht tall nf mo w))) ot w (szw w) ts0).map (fun s => (iz (boF okf ot ht tall nf mo w), s))
def spd (mo : Nat → Int32) (q : Nat × TS) : Nat → Int32 := fun j => if 10 * q.1 ≤ j ∧ j < 10 * q.1 + 10 then mo j + q.2.1 (j - 10 * q.1) else mo j
def plA (okf : OK) (ot ht : Nat → Int32) (tall : Int32) (nf : Nat) : List Nat → List (Nat × TS) → (Nat → Int32) → Option (List (Nat × TS) × (Nat → Int32))
  | [], acc, mo => some (acc, mo)
  | w :: ws, acc, mo => (pl1 okf ot ht tall nf mo w).bind fun q => plA okf ot ht tall nf ws (acc ++ [q]) (spd mo q)
def flS (L : List (Nat × TS)) : Int32 := L.foldl (fun a q => a + q.2.2.1) 0
theorem flS_app (L : List (Nat × TS)) (q : Nat × TS) : flS (L ++ [q]) = flS L + q.2.2.1 := by simp [flS]
/-- the words of a poster, from its k-th line on -/
def wds (wd : Nat → Nat) (p k n : Nat) : List Nat := (List.range' k (n - k)).map (fun q => wd (4 * p + q))
theorem wds_nil (wd : Nat → Nat) (p : Nat) {k n : Nat} (h : n ≤ k) : wds wd p k n = [] := by simp [wds, Nat.sub_eq_zero_of_le h]
theorem wds_cons (wd : Nat → Nat) (p : Nat) {k n : Nat} (h : k < n) : wds wd p k n = wd (4 * p + k) :: wds wd p (k + 1) n := by
  unfold wds
  rw [show n - k = (n - (k + 1)) + 1 by omega, List.range'_succ]
  rfl
theorem btr_ne {ht : Nat → Int32} {fl : Int32} {f : Nat} {least best : Int32} (h : btr ht fl f least best = true) : ¬ fl = -1 := by
  unfold btr at h
  split at h
  · simpa using h
  · next hh => exact fun q => hh (Or.inl q)
theorem bo_ok {fv ht : Nat → Int32} {tall : Int32} : ∀ (n f : Nat) (s : Int32 × Int32), f + n ≤ 5 → (s.2 = -1 ∨ ∃ b, b < 5 ∧ s.2 = nI b ∧ s.1 = fv b ∧ ¬ fv b = -1) → ((bo fv ht tall n f s).2 = -1 ∨ ∃ b, b < 5 ∧ (bo fv ht tall n f s).2 = nI b ∧ (bo fv ht tall n f s).1 = fv b ∧ ¬ fv b = -1) := by
  intro n
  induction n with
  | zero => intro f s _ h; exact h
  | succ n ih =>
    intro f s hf h
    unfold bo
    refine ih (f + 1) _ (by omega) ?_
    split
    · exact h
    · split
      · next hb => exact Or.inr ⟨f, by omega, rfl, rfl, btr_ne hb⟩
      · exact h
/-- what a tried poster answers and leaves -/
def plQ (o : Option (List (Nat × TS) × (Nat → Int32))) (r : Int32) (g' : MG) : Prop := match o with
  | none => r = -1
  | some (L, mo) => r = flS L ∧ g' 21 = mo ∧ ∀ i q, L[i]? = some q → g' 22 i = nI q.1 ∧ g' 23 i = q.2.2.1 ∧ g' 24 i = q.2.2.2
/-- only the rows of a try are written -/
def frP (g g' : MG) : Prop := (∀ q, (q < 21 ∨ 25 < q) → q ≠ 0 → g' q = g q) ∧ ∀ j, j ≠ 26 → g' 0 j = g 0 j
theorem frP.rf {g : MG} : frP g g := ⟨fun _ _ _ => rfl, fun _ _ => rfl⟩
theorem frP.trans {a b c : MG} (h1 : frP a b) (h2 : frP b c) : frP a c := ⟨fun q x y => (h2.1 q x y).trans (h1.1 q x y), fun j x => (h2.2 j x).trans (h1.2 j x)⟩
theorem frT.P {a b : MG} (h : frT a b) : frP a b := ⟨fun q x y => h.1 q (by omega) y, h.2⟩
theorem frP.w {g g' : MG} (h : frP g g') {k : Nat} (j : Nat) (x : Int32) (hk : 21 ≤ k ∧ k ≤ 25) : frP g (wr g' k j x) := ⟨fun q h1 h2 => by rw [wr_row _ _ _ _ (by omega)]; exact h.1 q h1 h2, fun j' hj => by rw [wr_row _ _ _ _ (by omega)]; exact h.2 j' hj⟩
def moZ (g : MG) : Nat → Int32 := fun j => if j < 50 then 0 else g 21 j
def plM (g : MG) (p nl nf : Nat) (wd : Nat → Nat) : Option (List (Nat × TS) × (Nat → Int32)) :=
  if g 15 p = 1 ∨ nl = 0 then none else plA (okA (g 6) (g 7)) (g 9) (g 5) (g 13 p) nf (wds wd p 0 nl) [] (moZ g)
