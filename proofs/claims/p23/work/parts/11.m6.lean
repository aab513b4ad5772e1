/-! WHAT EACH CALL ANSWERS AND LEAVES, said of the reference's rows; the reference's plain calls -/
def isN (n : Nat) (v : Int32) : Bool := decide (0 ≤ v.toInt) && decide (v.toInt < n)
theorem isN_t {n : Nat} {v : Int32} : isN n v = true ↔ 0 ≤ v.toInt ∧ v.toInt < n := by simp [isN]
theorem isN_nI {n : Nat} {v : Int32} (h : isN n v = true) : v = nI (iz v) ∧ iz v < n := by
  obtain ⟨h1, h2⟩ := isN_t.mp h
  refine ⟨(nI_iz h1).symm, ?_⟩
  have : (iz v : Int) = v.toInt := by unfold iz; rw [Int32.toNatClampNeg]; omega
  omega
theorem inB_isN {n : Nat} {v : Int32} (hn : n ≤ 100) : inB v 0 (nI n - 1) = isN n v := by
  have e : (nI n - 1).toInt = (n : Int) - 1 := by
    have h1 : (nI n).toInt = n := nI_toInt (by omega)
    have h2 : (1 : Int32).toInt = 1 := rfl
    rw [ti_sub] <;> omega
  have h0 : (0 : Int32).toInt = 0 := rfl
  by_cases h : 0 ≤ v.toInt ∧ v.toInt < n
  · rw [isN_t.mpr h, inB_t.mpr ⟨by omega, by omega⟩]
  · rw [show isN n v = false by cases hc : isN n v; rfl; exact absurd (isN_t.mp hc) h, inB_f.mpr (by omega)]
def mn (x y : Int32) : Int32 := if y < x then y else x
def rwr (g : MG) (k : Nat) (f : Nat → Int32) : MG := fun a => if a = k then f else g a
theorem rwr_same (g : MG) (k : Nat) (f : Nat → Int32) : rwr g k f k = f := if_pos rfl
theorem rwr_ne (g : MG) (k : Nat) (f : Nat → Int32) {q : Nat} (h : q ≠ k) : rwr g k f q = g q := if_neg h
abbrev nfO (g : MG) : Nat := iz (g 0 1)
abbrev npO (g : MG) : Nat := iz (g 0 2)
abbrev nlO (g : MG) (p : Nat) : Nat := iz (g 14 p)
abbrev wdO (g : MG) (j : Nat) : Nat := iz (g 17 j)
abbrev tkO (g : MG) (j : Nat) : Nat := iz (g 20 j)
/-- bounds that the reference's own walk needs -/
def IvM (g : MG) : Prop := (∃ n, n ≤ 5 ∧ g 0 1 = nI n) ∧ (∃ n, n ≤ 6 ∧ g 0 2 = nI n) ∧ otI (g 9) ∧ (∀ p, p < 6 → ∃ n, n ≤ 4 ∧ g 14 p = nI n) ∧ (∀ p, p < 6 → ∃ t, t < 4 ∧ g 12 p = nI t) ∧ (∀ p, p < 6 → g 15 p = 0 ∨ g 15 p = 1) ∧ (∀ j, j < 24 → ∃ w, w ≤ 99999999 ∧ g 17 j = nI w) ∧ (∀ p k, p < 6 → g 15 p = 1 → k < nlO g p → (∃ f, f < 5 ∧ g 18 (4 * p + k) = nI f) ∧ ∃ t, t ≤ 99999999 ∧ g 20 (4 * p + k) = nI t)
/-- alike in all that later calls can tell -/
def RE (g g' : MG) : Prop := (∀ j, 1 ≤ j → j ≤ 4 → g' 0 j = g 0 j) ∧ (∀ k, 5 ≤ k → k ≤ 17 → g' k = g k) ∧ ∀ p k, p < 6 → g 15 p = 1 → k < nlO g p → g' 18 (4 * p + k) = g 18 (4 * p + k) ∧ g' 19 (4 * p + k) = g 19 (4 * p + k) ∧ g' 20 (4 * p + k) = g 20 (4 * p + k)
theorem RE.rf {g : MG} : RE g g := ⟨fun _ _ _ => rfl, fun _ _ _ => rfl, fun _ _ _ _ _ => ⟨rfl, rfl, rfl⟩⟩
theorem RE.of {g g' : MG} (h0 : ∀ j, 1 ≤ j → j ≤ 4 → g' 0 j = g 0 j) (h : ∀ k, 5 ≤ k → k ≤ 20 → g' k = g k) : RE g g' := ⟨h0, fun k h1 h2 => h k h1 (by omega), fun p k _ _ _ => ⟨by rw [h 18 (by decide) (by decide)], by rw [h 19 (by decide) (by decide)], by rw [h 20 (by decide) (by decide)]⟩⟩
/-- the end of a call of the reference: what it threw, its answer, its rows; nothing else -/
def PM (g : MG) (cd : Nat) (an : Int32) (st : MG) (r : Int32) (g' : MG) : Prop := g' 0 0 = nI cd ∧ (cd = 0 → r = an) ∧ RE st g' ∧ ∀ q, 26 ≤ q → g' q = g q
theorem PM.no {g : MG} {cd k : Nat} {an : Int32} {st : MG} {r : Int32} {gx : MG} (h : cd = k) (hk : ¬ k = 0) (hst : st = g) (h0 : ∀ j, 1 ≤ j → j ≤ 4 → gx 0 j = g 0 j) (hx : ∀ q, 5 ≤ q → q ≤ 20 → gx q = g q) (hy : ∀ q, 26 ≤ q → gx q = g q) : PM g cd an st r (wr gx 0 0 (nI k)) := by
  subst h; subst hst
  refine ⟨wr_same _ _ _ _, fun q => absurd q hk, RE.of (fun j h1 h2 => by rw [wr_ne _ _ _ _ (Or.inr (by omega))]; exact h0 j h1 h2) (fun q h1 h2 => by rw [wr_row _ _ _ _ (by omega)]; exact hx q h1 h2), fun q hq => by rw [wr_row _ _ _ _ (by omega)]; exact hy q hq⟩
def cdFount (g : MG) (h : Int32) : Nat := if inB h 1 20 = false then 1 else if nfO g = 5 then 2 else 0
def stFount (g : MG) (h : Int32) : MG := if cdFount g h = 0 then wr (wr g 5 (nfO g) h) 0 1 (nI (nfO g + 1)) else g
def isFL (g : MG) (f k : Int32) : Bool := isN (nfO g) f && isN 10 k
def atO (f k : Int32) : Nat := 10 * iz f + iz k
def cdBuy (g : MG) (f k m : Int32) : Nat := if isFL g f k = false then 1 else if inB m 1 9 = false then 2 else if 9 < g 6 (atO f k) + m then 3 else 0
def stBuy (g : MG) (f k m : Int32) : MG := if cdBuy g f k m = 0 then wr g 6 (atO f k) (g 6 (atO f k) + m) else g
def cdBuyAll (g : MG) (f m : Int32) : Nat := if isN (nfO g) f = false then 1 else if inB m 1 9 = false then 2 else 0
def moB (g : MG) (m : Int32) (j : Nat) : Int32 := mn m (9 - g 6 j)
def anBuyAll (g : MG) (f m : Int32) : Int32 := sumI (fun k => moB g m (10 * iz f + k)) 10
def stBuyAll (g : MG) (f m : Int32) : MG := if cdBuyAll g f m = 0 then rwr g 6 (fun j => if 10 * iz f ≤ j ∧ j < 10 * iz f + 10 then g 6 j + moB g m j else g 6 j) else g
def cdSetOther (k o : Int32) : Nat := if isN 10 k = false ∨ (¬ o = -1 ∧ isN 10 o = false) then 1 else if k = o then 2 else 0
def stSetOther (g : MG) (k o : Int32) : MG := if cdSetOther k o = 0 then wr g 9 (iz k) o else g
def cdSetTown (t p s : Int32) : Nat := if isN 4 t = false then 1 else if inB p 0 9 = false ∨ inB s 0 30 = false then 2 else 0
def stSetTown (g : MG) (t p s : Int32) : MG := if cdSetTown t p s = 0 then wr (wr g 10 (iz t) p) 11 (iz t) s else g
def cdPoster (g : MG) (t h : Int32) : Nat := if isN 4 t = false then 1 else if inB h 1 20 = false then 2 else if npO g = 6 then 3 else 0
def stPoster (g : MG) (t h : Int32) : MG := if cdPoster g t h = 0 then wr (wr (wr g 12 (npO g) t) 13 (npO g) h) 0 2 (nI (npO g + 1)) else g
def cdLine (g : MG) (p w : Int32) : Nat := if isN (npO g) p = false then 1 else if inB w 0 99999999 = false then 2 else if g 15 (iz p) = 1 ∨ nlO g (iz p) = 4 then 3 else 0
def stLine (g : MG) (p w : Int32) : MG := if cdLine g p w = 0 then wr (wr g 17 (4 * iz p + nlO g (iz p)) w) 14 (iz p) (nI (nlO g (iz p) + 1)) else g
