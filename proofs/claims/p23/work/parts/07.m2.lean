abbrev TS : Type := (Nat → Int32) × Int32 × Int32
/-- one letter more: the blocks taken, the flaws, the word so far -/
def tl1 (ok : Nat → Int32 → Bool) (ot : Nat → Int32) (s : TS) (d : Nat) : Option TS :=
  if ok d (s.1 d) then some (upd s.1 d (s.1 d + 1), s.2.1, 10 * s.2.2 + nI d)
  else if ot d = -1 then none
  else if ok (iz (ot d)) (s.1 (iz (ot d))) then some (upd s.1 (iz (ot d)) (s.1 (iz (ot d)) + 1), s.2.1 + 1, 10 * s.2.2 + ot d) else none
def tlR (ok : Nat → Int32 → Bool) (ot : Nat → Int32) (w : Nat) : Nat → TS → Option TS
  | 0, s => some s
  | m + 1, s => (tl1 ok ot s (w / 10 ^ m % 10)).bind (tlR ok ot w m)
def ts0 : TS := (fun _ => 0, 0, 0)
def otI (ot : Nat → Int32) : Prop := ∀ l, l < 10 → ot l = -1 ∨ ∃ o, o < 10 ∧ o ≠ l ∧ ot l = nI o
/-- only its row and wordNow are written -/
def frT (g g' : MG) : Prop := (∀ q, q ≠ 25 → q ≠ 0 → g' q = g q) ∧ ∀ j, j ≠ 26 → g' 0 j = g 0 j
theorem frT.rf {g : MG} : frT g g := ⟨fun _ _ _ => rfl, fun _ _ => rfl⟩
theorem frT.w25 {g g' : MG} (h : frT g g') (j : Nat) (x : Int32) : frT g (wr g' 25 j x) := ⟨fun q h1 h2 => by rw [wr_row _ _ _ _ h1]; exact h.1 q h1 h2, fun j' hj => by rw [wr_row _ _ _ _ (by decide)]; exact h.2 j' hj⟩
theorem frT.w0 {g g' : MG} (h : frT g g') (x : Int32) : frT g (wr g' 0 26 x) := ⟨fun q h1 h2 => by rw [wr_row _ _ _ _ h2]; exact h.1 q h1 h2, fun j' hj => by rw [wr_ne _ _ _ _ (Or.inr hj)]; exact h.2 j' hj⟩
theorem okM_fr {g g' : MG} (h : frT g g') (f k : Nat) (x : Int32) : okM g' f k x = okM g f k x := by unfold okM; rw [h.1 6 (by decide) (by decide), h.1 7 (by decide) (by decide), h.1 21 (by decide) (by decide)]
/-- what a try answers and leaves -/
def tlQ (o : Option TS) (r : Int32) (g' : MG) : Prop := match o with
  | none => r = -1
  | some s => r = s.2.1 ∧ g' 0 26 = s.2.2 ∧ ∀ l, l < 10 → g' 25 l = s.1 l
theorem szw_le {w : Nat} : szw w ≤ 10 := by
  unfold szw
  have h : ∀ f r, dgc f r ≤ f := by
    intro f
    induction f with
    | zero => intro r; exact Nat.le_refl 0
    | succ f ih =>
      intro r
      unfold dgc
      split
      · omega
      · have := ih (r / 10); omega
  have := h 9 (w / 10)
  omega
