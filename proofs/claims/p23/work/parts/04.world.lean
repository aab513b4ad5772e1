/-! THE WORLD: one function g (key, place) holds every whole number of class, reference and law's cell; the keys' addresses ad; references follow from the numbers -/
abbrev vwCl : List vw_C := [(RJx4a65c, TJx4a65c, 3), (RX0, TX0, 6), (RX1, TX1, 6), (RX2, TX2, 5), (RX3, TX3, 7), (RX4, TX4, 8), (RX5, TX5, 7), (RJ0, TJ0, 4), (RJ4, TJ4, 4)]
abbrev MG : Type := Nat → Nat → Int32
abbrev Lo : Type := List (Option Value)
/-- the classes of arrays: of int, Object, int[], int[][], the law's posters; and the rows of the law's cells -/
abbrev Yc : Type := ClassId × ClassId × ClassId × ClassId × ClassId × ClassId × MG
abbrev Yc.m (Y : Yc) : MG := Y.2.2.2.2.2.2
def wr (g : MG) (k j : Nat) (x : Int32) : MG := fun a b => if a = k then (if b = j then x else g a b) else g a b
def iz (x : Int32) : Nat := x.toNatClampNeg
theorem wr_same (g : MG) (k j : Nat) (x : Int32) : wr g k j x k j = x := by simp [wr]
theorem wr_row (g : MG) (k j : Nat) (x : Int32) {q : Nat} (h : q ≠ k) : wr g k j x q = g q := by funext b; simp [wr, h]
theorem wr_ne (g : MG) (k j : Nat) (x : Int32) {q i : Nat} (h : q ≠ k ∨ i ≠ j) : wr g k j x q i = g q i := by
  unfold wr
  rcases h with h | h
  · rw [if_neg h]
  · by_cases hk : q = k
    · rw [if_pos hk, if_neg h]
    · rw [if_neg hk]
theorem wr_own (g : MG) (k j : Nat) (x : Int32) : wr g k j x k = upd (g k) j x := by funext b; simp [wr, upd]
theorem nI_iz {x : Int32} (h : 0 ≤ x.toInt) : nI (iz x) = x := by
  apply Int32.toInt_inj.mp
  have h1 : (iz x : Int) = x.toInt := by unfold iz; rw [Int32.toNatClampNeg]; omega
  have h2 : iz x < 2 ^ 31 := by have := Int32.toInt_lt x; omega
  rw [nI_toInt h2, h1]
theorem iz_nI {n : Nat} (h : n < 2 ^ 31) : iz (nI n) = n := nI_clamp h
/-- a list's object, its first elements' row behind it -/
def cLi (ad : Nat → Nat) (df : Nat) (r : Nat → Int32) (e : Nat) : va_E := .inr (0, [.int (r 2), .ref (if r 2 = 0 then df else ad e), .int (r 2)])
def cEd (Y : Yc) (n : Int32) (f : Nat → Nat) : Option va_E := if n = 0 then none else some (.inl (Y.2.1, 10, .inr (.inr (.inr (.inr (fun j => if j < iz n then some (f j) else none))))))
def fR (ad : Nat → Nat) (x : Int32) : Option Nat := if x < 0 then none else some (ad (40 + 10 * iz x))
/-- a reference of the law's cells: the key that it goes to; below 600 it is null -/
def fW (ad : Nat → Nat) (x : Int32) : Option Nat := if iz x < 600 then none else some (ad (iz x))
/-- a cell of the law's: its kind stands at place 100000 of its row, an array's length at 100001 -/
def cW (Y : Yc) (ad : Nat → Nat) (r : Nat → Int32) : Option va_E :=
  if r 100000 = 1 then some (.inl (Y.1, iz (r 100001), .inl r))
  else if r 100000 = 2 then some (.inl (Y.2.2.1, iz (r 100001), .inr (.inr (.inr (.inr (fun j => fW ad (r j)))))))
  else if r 100000 = 3 then some (.inl (Y.2.2.2.1, iz (r 100001), .inr (.inr (.inr (.inr (fun j => fW ad (r j)))))))
  else if r 100000 = 4 then some (.inl (Y.2.2.2.2.1, iz (r 100001), .inr (.inr (.inr (.inr (fun j => fW ad (r j)))))))
  else if r 100000 = 5 then some (.inr (5, [.int (r 0), .int (r 1), va_rf (fW ad (r 2)), .int (r 3), .int (r 4), va_rf (fW ad (r 5)), va_rf (fW ad (r 6)), va_rf (fW ad (r 7))]))
  else if r 100000 = 6 then some (.inr (6, [.int (r 0), .int (r 1), va_rf (fW ad (r 2)), va_rf (fW ad (r 3)), va_rf (fW ad (r 4)), va_rf (fW ad (r 5)), va_rf (fW ad (r 6))]))
  else if r 100000 = 7 then some (.inl (Y.2.2.2.2.2.1, iz (r 100001), .inl r))
  else if r 100000 = 8 then some (.inr (7, [va_rf (fW ad (r 0)), .int (r 1), .int (r 2), .int (r 3)]))
  else if r 100000 = 9 then some (.inr (8, [va_rf (fW ad (r 0)), .int (r 1), .int (r 2), .int (r 3)]))
  else none
theorem cW_ad {Y : Yc} {ad ad' : Nat → Nat} (h : ∀ q, 600 ≤ q → ad' q = ad q) (r : Nat → Int32) : cW Y ad' r = cW Y ad r := by
  have e : fW ad' = fW ad := by
    funext x
    unfold fW
    by_cases hx : iz x < 600
    · rw [if_pos hx, if_pos hx]
    · rw [if_neg hx, if_neg hx, h _ (by omega)]
  unfold cW
  rw [e]
/-- a cell by its key, out of the sizes n1, n2, nl and the numbers r of its own -/
def cS (Y : Yc) (ad : Nat → Nat) (df : Nat) (n1 n2 : Int32) (nl : Nat → Int32) (r : Nat → Int32) (k : Nat) : Option va_E :=
  if k < 30 then none
  else if k = 30 then some (.inr (4, [.ref (ad 31), .ref (ad 32), .ref (ad 33), .ref (ad 34), .ref (ad 35), .int (r 5), .int (r 6)]))
  else if k = 31 then some (cLi ad df r 36)
  else if k = 32 then some (cLi ad df r 37)
  else if k = 33 then some (.inl (Y.1, 10, .inl r))
  else if k < 36 then some (.inl (Y.1, 4, .inl r))
  else if k = 36 then cEd Y n1 (fun j => ad (40 + 10 * j))
  else if k = 37 then cEd Y n2 (fun j => ad (100 + 10 * j))
  else if k < 40 then none
  else if k < 90 then
    if (k - 40) / 10 < iz n1 then
      if (k - 40) % 10 = 0 then some (.inr (1, [.int (r 0), .int (r 1), .ref (ad (k + 1)), .ref (ad (k + 2)), .ref (ad (k + 3)), .ref (ad (k + 4))]))
      else if (k - 40) % 10 < 5 then some (.inl (Y.1, 10, .inl r)) else none
    else none
  else if k < 100 then none
  else if k < 160 then
    if (k - 100) / 10 < iz n2 then
      if (k - 100) % 10 = 0 then some (.inr (3, [.int (r 0), .int (r 1), .ref (ad (k + 1)), .int (r 3), .int (r 4)]))
      else if (k - 100) % 10 = 1 then some (cLi ad df r (k + 1))
      else if (k - 100) % 10 = 2 then cEd Y (nl ((k - 100) / 10)) (fun j => ad (200 + 10 * (4 * ((k - 100) / 10) + j))) else none
    else none
  else if k < 200 then none
  else if k < 440 then
    if (k - 200) / 40 < iz n2 ∧ ((k - 200) / 10) % 4 < iz (nl ((k - 200) / 40)) then
      if (k - 200) % 10 = 0 then some (.inr (2, [.ref (ad (k + 1)), .int (r 1), .ref (ad (k + 2)), va_rf (fR ad (r 3)), .int (r 4), .int (r 5)]))
      else if (k - 200) % 10 = 1 then some (.inl (Y.1, 8, .inl r))
      else if (k - 200) % 10 = 2 then some (.inl (Y.1, 10, .inl r)) else none
    else none
  else if k < 600 then none
  else if k < 1200 then cW Y ad (Y.m k) else none
def cx (Y : Yc) (ad : Nat → Nat) (df : Nat) (g : MG) (k : Nat) : Option va_E := cS Y ad df (g 31 2) (g 32 2) (fun p => g (101 + 10 * p) 2) (g k) k
/-- the shape: how many there are of each; a line's fount is one of them -/
def Wf (g : MG) : Prop := (∃ n, n ≤ 5 ∧ g 31 2 = nI n ∧ ∀ j, j < 24 → g (200 + 10 * j) 3 = -1 ∨ ∃ i, i < n ∧ g (200 + 10 * j) 3 = nI i) ∧ (∃ n, n ≤ 6 ∧ g 32 2 = nI n) ∧ ∀ p, p < 6 → ∃ n, n ≤ 4 ∧ g (101 + 10 * p) 2 = nI n
def Hw (D : va_G) (Y : Yc) (ad : Nat → Nat) (df z : Nat) (g : MG) (H : Heap) : Prop :=
  (∀ k e, cx Y ad df g k = some e → va_at D vwCl (ad k, e) H ∧ z ≤ ad k) ∧ (∀ k k', cx Y ad df g k ≠ none → cx Y ad df g k' ≠ none → ad k = ad k' → k = k') ∧ Wf g
def A0 (z : Nat) : Nat → Prop := fun q => z ≤ q
/-- keys of lists: their sizes are the shape -/
def lk (k : Nat) : Bool := k == 31 || k == 32 || (decide (100 ≤ k) && decide (k < 160) && k % 10 == 1)
theorem lk_p {p : Nat} (h : p < 6) : lk (101 + 10 * p) = true := by
  have h1 : 100 ≤ 101 + 10 * p := by omega
  have h2 : 101 + 10 * p < 160 := by omega
  have h3 : (101 + 10 * p) % 10 = 1 := by omega
  simp [lk, h1, h2, h3]
theorem cS_nl (Y : Yc) (ad : Nat → Nat) (df : Nat) (n1 n2 : Int32) {nl nl' : Nat → Int32} (h : ∀ p, p < 6 → nl p = nl' p) (r : Nat → Int32) (k : Nat) : cS Y ad df n1 n2 nl r k = cS Y ad df n1 n2 nl' r k := by
  by_cases h1 : 100 ≤ k ∧ k < 160
  · have e : nl ((k - 100) / 10) = nl' ((k - 100) / 10) := h _ (by omega)
    simp only [cS, e, h1.2, if_true]
  · by_cases h2 : 200 ≤ k ∧ k < 440
    · have e : nl ((k - 200) / 40) = nl' ((k - 200) / 40) := h _ (by omega)
      simp only [cS, e]
      have a1 : ¬ k < 160 := by omega
      simp only [a1, if_false]
    · have a1 : k < 100 ∨ 160 ≤ k := by omega
      have a2 : k < 200 ∨ 440 ≤ k := by omega
      unfold cS
      rcases a1 with a1 | a1
      · simp only [a1, if_true]
      · have b1 : ¬ k < 160 := by omega
        rcases a2 with a2 | a2
        · simp only [a2, b1, if_true, if_false]
        · have b2 : ¬ k < 440 := by omega
          simp only [b1, b2, if_false]
theorem cx_wr_ne (Y : Yc) (ad : Nat → Nat) (df : Nat) (g : MG) {k j : Nat} (x : Int32) (hk : lk k = false) {q : Nat} (hq : q ≠ k) : cx Y ad df (wr g k j x) q = cx Y ad df g q := by
  have n31 : 31 ≠ k := by rintro rfl; simp [lk] at hk
  have n32 : 32 ≠ k := by rintro rfl; simp [lk] at hk
  unfold cx
  rw [wr_row g k j x n31, wr_row g k j x n32, wr_row g k j x hq]
  refine cS_nl Y ad df _ _ (fun p hp => ?_) _ _
  have : 101 + 10 * p ≠ k := by rintro rfl; rw [lk_p hp] at hk; cases hk
  rw [wr_row g k j x this]
theorem Wf_wr {g : MG} (h : Wf g) {k j : Nat} (x : Int32) (hk : lk k = false) (hx : j = 3 → (∀ i, i < 24 → k ≠ 200 + 10 * i) ∨ x = -1 ∨ ∃ i, g 31 2 = g 31 2 ∧ (∀ n, g 31 2 = nI n → n ≤ 5 → i < n) ∧ x = nI i) : Wf (wr g k j x) := by
  obtain ⟨⟨n, hn, e1, hf⟩, ⟨n2, hn2, e2⟩, h3⟩ := h
  have n31 : 31 ≠ k := by rintro rfl; simp [lk] at hk
  have n32 : 32 ≠ k := by rintro rfl; simp [lk] at hk
  refine ⟨⟨n, hn, by rw [wr_row g k j x n31]; exact e1, fun i hi => ?_⟩, ⟨n2, hn2, by rw [wr_row g k j x n32]; exact e2⟩, fun p hp => ?_⟩
  · by_cases hki : 200 + 10 * i = k
    · by_cases hj : j = 3
      · rcases hx hj with h | h | ⟨i', -, h, h'⟩
        · exact absurd hki.symm (h i hi)
        · left; rw [hki, hj, wr_same]; exact h
        · right; exact ⟨i', h n e1 hn, by rw [hki, hj, wr_same]; exact h'⟩
      · rw [wr_ne g k j x (Or.inr (fun q => hj q.symm))]
        exact hf i hi
    · rw [wr_row g k j x hki]
      exact hf i hi
  · have : 101 + 10 * p ≠ k := by rintro rfl; rw [lk_p hp] at hk; cases hk
    rw [wr_row g k j x this]
    exact h3 p hp
/-- one cell written: its number place j gets x -/
theorem Hw_wr {D : va_G} {Y : Yc} {ad : Nat → Nat} {df z : Nat} {g : MG} {H H' : Heap} (h : Hw D Y ad df z g H) {k j : Nat} {x : Int32} {e e' : va_E} (hk : lk k = false) (hx : j = 3 → (∀ i, i < 24 → k ≠ 200 + 10 * i) ∨ x = -1 ∨ ∃ i, g 31 2 = g 31 2 ∧ (∀ n, g 31 2 = nI n → n ≤ 5 → i < n) ∧ x = nI i)
    (he : cx Y ad df g k = some e) (he' : cx Y ad df (wr g k j x) k = some e') (ha : va_at D vwCl (ad k, e') H') (oq : ∀ q : Nat, q ≠ ad k → H'[q]? = H[q]?) : Hw D Y ad df z (wr g k j x) H' := by
  have hne : ∀ q, cx Y ad df (wr g k j x) q ≠ none ↔ cx Y ad df g q ≠ none := by
    intro q
    by_cases hq : q = k
    · subst hq; rw [he, he']; simp
    · rw [cx_wr_ne Y ad df g x hk hq]
  refine ⟨fun q e0 hq => ?_, fun a b ha hb hab => h.2.1 a b ((hne a).mp ha) ((hne b).mp hb) hab, Wf_wr h.2.2 x hk hx⟩
  by_cases hqk : q = k
  · subst hqk
    rw [he'] at hq
    cases hq
    exact ⟨ha, (h.1 q e he).2⟩
  · rw [cx_wr_ne Y ad df g x hk hqk] at hq
    refine ⟨(h.1 q e0 hq).1.kept (oq _ fun hh => hqk (h.2.1 q k (by rw [hq]; simp) (by rw [he]; simp) hh)), (h.1 q e0 hq).2⟩
theorem Hw_kept {D : va_G} {Y : Yc} {ad : Nat → Nat} {df z : Nat} {g : MG} {H H' : Heap} (h : Hw D Y ad df z g H) (oq : ∀ q : Nat, q < H.size → H'[q]? = H[q]?) : Hw D Y ad df z g H' :=
  ⟨fun k e hk => ⟨(h.1 k e hk).1.kept (oq _ (h.1 k e hk).1.lt), (h.1 k e hk).2⟩, h.2⟩
-- what lies at a key
theorem cx_T {Y : Yc} {ad : Nat → Nat} {df : Nat} {g : MG} : cx Y ad df g 30 = some (.inr (4, [.ref (ad 31), .ref (ad 32), .ref (ad 33), .ref (ad 34), .ref (ad 35), .int (g 30 5), .int (g 30 6)])) := rfl
theorem cx_L1 {Y : Yc} {ad : Nat → Nat} {df : Nat} {g : MG} : cx Y ad df g 31 = some (cLi ad df (g 31) 36) := rfl
theorem cx_L2 {Y : Yc} {ad : Nat → Nat} {df : Nat} {g : MG} : cx Y ad df g 32 = some (cLi ad df (g 32) 37) := rfl
theorem cx_O {Y : Yc} {ad : Nat → Nat} {df : Nat} {g : MG} : cx Y ad df g 33 = some (.inl (Y.1, 10, .inl (g 33))) := rfl
theorem cx_Pa {Y : Yc} {ad : Nat → Nat} {df : Nat} {g : MG} : cx Y ad df g 34 = some (.inl (Y.1, 4, .inl (g 34))) := rfl
theorem cx_Sr {Y : Yc} {ad : Nat → Nat} {df : Nat} {g : MG} : cx Y ad df g 35 = some (.inl (Y.1, 4, .inl (g 35))) := rfl
theorem cx_F {Y : Yc} {ad : Nat → Nat} {df : Nat} {g : MG} {i n : Nat} (hn : g 31 2 = nI n) (hi : i < n) (h5 : n ≤ 5) : cx Y ad df g (40 + 10 * i) = some (.inr (1, [.int (g (40 + 10 * i) 0), .int (g (40 + 10 * i) 1), .ref (ad (40 + 10 * i + 1)), .ref (ad (40 + 10 * i + 2)), .ref (ad (40 + 10 * i + 3)), .ref (ad (40 + 10 * i + 4))])) := by
  have e : iz (g 31 2) = n := by rw [hn]; exact iz_nI (by omega)
  have a1 : (40 + 10 * i - 40) / 10 = i := by omega
  have a2 : (40 + 10 * i - 40) % 10 = 0 := by omega
  have b1 : 40 + 10 * i ≠ 0 := by omega
  have b2 : ¬ 40 + 10 * i < 5 := by omega
  have b3 : ¬ 40 + 10 * i < 26 := by omega
  have b4 : ¬ 40 + 10 * i < 30 := by omega
  have b5 : ¬ 40 + 10 * i = 30 := by omega
  have b6 : ¬ 40 + 10 * i = 31 := by omega
  have b7 : ¬ 40 + 10 * i = 32 := by omega
  have b8 : ¬ 40 + 10 * i = 33 := by omega
  have b9 : ¬ 40 + 10 * i < 36 := by omega
  have b10 : ¬ 40 + 10 * i = 36 := by omega
  have b11 : ¬ 40 + 10 * i = 37 := by omega
  have b12 : ¬ 40 + 10 * i < 40 := by omega
  have b13 : 40 + 10 * i < 90 := by omega
  simp only [cx, cS, e, a1, a2, b1, b2, b3, b4, b5, b6, b7, b8, b9, b10, b11, b12, b13, hi, if_false, if_true]
theorem cx_Fa {Y : Yc} {ad : Nat → Nat} {df : Nat} {g : MG} {i n : Nat} (r : Nat) (hn : g 31 2 = nI n) (hi : i < n) (h5 : n ≤ 5) (hr : 1 ≤ r ∧ r < 5) : cx Y ad df g (40 + 10 * i + r) = some (.inl (Y.1, 10, .inl (g (40 + 10 * i + r)))) := by
  have e : iz (g 31 2) = n := by rw [hn]; exact iz_nI (by omega)
  have a1 : (40 + 10 * i + r - 40) / 10 = i := by omega
  have a2 : ¬ (40 + 10 * i + r - 40) % 10 = 0 := by omega
  have a3 : (40 + 10 * i + r - 40) % 10 < 5 := by omega
  have b1 : 40 + 10 * i + r ≠ 0 := by omega
  have b2 : ¬ 40 + 10 * i + r < 5 := by omega
  have b3 : ¬ 40 + 10 * i + r < 26 := by omega
  have b4 : ¬ 40 + 10 * i + r < 30 := by omega
  have b5 : ¬ 40 + 10 * i + r = 30 := by omega
  have b6 : ¬ 40 + 10 * i + r = 31 := by omega
  have b7 : ¬ 40 + 10 * i + r = 32 := by omega
  have b8 : ¬ 40 + 10 * i + r = 33 := by omega
  have b9 : ¬ 40 + 10 * i + r < 36 := by omega
  have b10 : ¬ 40 + 10 * i + r = 36 := by omega
  have b11 : ¬ 40 + 10 * i + r = 37 := by omega
  have b12 : ¬ 40 + 10 * i + r < 40 := by omega
  have b13 : 40 + 10 * i + r < 90 := by omega
  simp only [cx, cS, e, a1, a2, a3, b1, b2, b3, b4, b5, b6, b7, b8, b9, b10, b11, b12, b13, hi, if_false, if_true]
theorem cx_P {Y : Yc} {ad : Nat → Nat} {df : Nat} {g : MG} {i n : Nat} (hn : g 32 2 = nI n) (hi : i < n) (h6 : n ≤ 6) : cx Y ad df g (100 + 10 * i) = some (.inr (3, [.int (g (100 + 10 * i) 0), .int (g (100 + 10 * i) 1), .ref (ad (100 + 10 * i + 1)), .int (g (100 + 10 * i) 3), .int (g (100 + 10 * i) 4)])) := by
  have e : iz (g 32 2) = n := by rw [hn]; exact iz_nI (by omega)
  have a1 : (100 + 10 * i - 100) / 10 = i := by omega
  have a2 : (100 + 10 * i - 100) % 10 = 0 := by omega
  have b1 : 100 + 10 * i ≠ 0 := by omega
  have b2 : ¬ 100 + 10 * i < 5 := by omega
  have b3 : ¬ 100 + 10 * i < 26 := by omega
  have b4 : ¬ 100 + 10 * i < 30 := by omega
  have b5 : ¬ 100 + 10 * i = 30 := by omega
  have b6 : ¬ 100 + 10 * i = 31 := by omega
  have b7 : ¬ 100 + 10 * i = 32 := by omega
  have b8 : ¬ 100 + 10 * i = 33 := by omega
  have b9 : ¬ 100 + 10 * i < 36 := by omega
  have b10 : ¬ 100 + 10 * i = 36 := by omega
  have b11 : ¬ 100 + 10 * i = 37 := by omega
  have b12 : ¬ 100 + 10 * i < 40 := by omega
  have b13 : ¬ 100 + 10 * i < 90 := by omega
  have b14 : ¬ 100 + 10 * i < 100 := by omega
  have b15 : 100 + 10 * i < 160 := by omega
  simp only [cx, cS, e, a1, a2, b1, b2, b3, b4, b5, b6, b7, b8, b9, b10, b11, b12, b13, b14, b15, hi, if_false, if_true]
theorem cx_PL {Y : Yc} {ad : Nat → Nat} {df : Nat} {g : MG} {i n : Nat} (hn : g 32 2 = nI n) (hi : i < n) (h6 : n ≤ 6) : cx Y ad df g (100 + 10 * i + 1) = some (cLi ad df (g (100 + 10 * i + 1)) (100 + 10 * i + 1 + 1)) := by
  have e : iz (g 32 2) = n := by rw [hn]; exact iz_nI (by omega)
  have a1 : (100 + 10 * i + 1 - 100) / 10 = i := by omega
  have a2 : ¬ (100 + 10 * i + 1 - 100) % 10 = 0 := by omega
  have a3 : (100 + 10 * i + 1 - 100) % 10 = 1 := by omega
  have b1 : 100 + 10 * i + 1 ≠ 0 := by omega
  have b2 : ¬ 100 + 10 * i + 1 < 5 := by omega
  have b3 : ¬ 100 + 10 * i + 1 < 26 := by omega
  have b4 : ¬ 100 + 10 * i + 1 < 30 := by omega
  have b5 : ¬ 100 + 10 * i + 1 = 30 := by omega
  have b6 : ¬ 100 + 10 * i + 1 = 31 := by omega
  have b7 : ¬ 100 + 10 * i + 1 = 32 := by omega
  have b8 : ¬ 100 + 10 * i + 1 = 33 := by omega
  have b9 : ¬ 100 + 10 * i + 1 < 36 := by omega
  have b10 : ¬ 100 + 10 * i + 1 = 36 := by omega
  have b11 : ¬ 100 + 10 * i + 1 = 37 := by omega
  have b12 : ¬ 100 + 10 * i + 1 < 40 := by omega
  have b13 : ¬ 100 + 10 * i + 1 < 90 := by omega
  have b14 : ¬ 100 + 10 * i + 1 < 100 := by omega
  have b15 : 100 + 10 * i + 1 < 160 := by omega
  simp only [cx, cS, e, a1, a2, a3, b1, b2, b3, b4, b5, b6, b7, b8, b9, b10, b11, b12, b13, b14, b15, hi, if_false, if_true]
  rfl
theorem cx_PE {Y : Yc} {ad : Nat → Nat} {df : Nat} {g : MG} {i n : Nat} (hn : g 32 2 = nI n) (hi : i < n) (h6 : n ≤ 6) : cx Y ad df g (100 + 10 * i + 1 + 1) = cEd Y (g (100 + 10 * i + 1) 2) (fun j => ad (200 + 10 * (4 * i + j))) := by
  have e : iz (g 32 2) = n := by rw [hn]; exact iz_nI (by omega)
  have a1 : (100 + 10 * i + 1 + 1 - 100) / 10 = i := by omega
  have a2 : ¬ (100 + 10 * i + 1 + 1 - 100) % 10 = 0 := by omega
  have a3 : ¬ (100 + 10 * i + 1 + 1 - 100) % 10 = 1 := by omega
  have a4 : (100 + 10 * i + 1 + 1 - 100) % 10 = 2 := by omega
  have a5 : 101 + 10 * i = 100 + 10 * i + 1 := by omega
  have b1 : 100 + 10 * i + 1 + 1 ≠ 0 := by omega
  have b2 : ¬ 100 + 10 * i + 1 + 1 < 5 := by omega
  have b3 : ¬ 100 + 10 * i + 1 + 1 < 26 := by omega
  have b4 : ¬ 100 + 10 * i + 1 + 1 < 30 := by omega
  have b5 : ¬ 100 + 10 * i + 1 + 1 = 30 := by omega
  have b6 : ¬ 100 + 10 * i + 1 + 1 = 31 := by omega
  have b7 : ¬ 100 + 10 * i + 1 + 1 = 32 := by omega
  have b8 : ¬ 100 + 10 * i + 1 + 1 = 33 := by omega
  have b9 : ¬ 100 + 10 * i + 1 + 1 < 36 := by omega
  have b10 : ¬ 100 + 10 * i + 1 + 1 = 36 := by omega
  have b11 : ¬ 100 + 10 * i + 1 + 1 = 37 := by omega
  have b12 : ¬ 100 + 10 * i + 1 + 1 < 40 := by omega
  have b13 : ¬ 100 + 10 * i + 1 + 1 < 90 := by omega
  have b14 : ¬ 100 + 10 * i + 1 + 1 < 100 := by omega
  have b15 : 100 + 10 * i + 1 + 1 < 160 := by omega
  simp only [cx, cS, e, a1, a2, a3, a4, a5, b1, b2, b3, b4, b5, b6, b7, b8, b9, b10, b11, b12, b13, b14, b15, hi, if_false, if_true]
  rfl
/-- a line's key: j = 4 * its poster + its number -/
theorem cx_Lr {Y : Yc} {ad : Nat → Nat} {df : Nat} {g : MG} {i q n m : Nat} (r : Nat) (hn : g 32 2 = nI n) (hi : i < n) (h6 : n ≤ 6) (hm : g (101 + 10 * i) 2 = nI m) (hq : q < m) (h4 : m ≤ 4) (hr : r < 3) : cx Y ad df g (200 + 10 * (4 * i + q) + r) = if r = 0 then some (.inr (2, [.ref (ad (200 + 10 * (4 * i + q) + r + 1)), .int (g (200 + 10 * (4 * i + q) + r) 1), .ref (ad (200 + 10 * (4 * i + q) + r + 2)), va_rf (fR ad (g (200 + 10 * (4 * i + q) + r) 3)), .int (g (200 + 10 * (4 * i + q) + r) 4), .int (g (200 + 10 * (4 * i + q) + r) 5)])) else if r = 1 then some (.inl (Y.1, 8, .inl (g (200 + 10 * (4 * i + q) + r)))) else some (.inl (Y.1, 10, .inl (g (200 + 10 * (4 * i + q) + r)))) := by
  have e : iz (g 32 2) = n := by rw [hn]; exact iz_nI (by omega)
  have a1 : (200 + 10 * (4 * i + q) + r - 200) / 40 = i := by omega
  have e2 : iz (g (101 + 10 * i) 2) = m := by rw [hm]; exact iz_nI (by omega)
  have a2 : (200 + 10 * (4 * i + q) + r - 200) / 10 % 4 = q := by omega
  have a3 : (200 + 10 * (4 * i + q) + r - 200) % 10 = r := by omega
  have b1 : 200 + 10 * (4 * i + q) + r ≠ 0 := by omega
  have b2 : ¬ 200 + 10 * (4 * i + q) + r < 5 := by omega
  have b3 : ¬ 200 + 10 * (4 * i + q) + r < 26 := by omega
  have b4 : ¬ 200 + 10 * (4 * i + q) + r < 30 := by omega
  have b5 : ¬ 200 + 10 * (4 * i + q) + r = 30 := by omega
  have b6 : ¬ 200 + 10 * (4 * i + q) + r = 31 := by omega
  have b7 : ¬ 200 + 10 * (4 * i + q) + r = 32 := by omega
  have b8 : ¬ 200 + 10 * (4 * i + q) + r = 33 := by omega
  have b9 : ¬ 200 + 10 * (4 * i + q) + r < 36 := by omega
  have b10 : ¬ 200 + 10 * (4 * i + q) + r = 36 := by omega
  have b11 : ¬ 200 + 10 * (4 * i + q) + r = 37 := by omega
  have b12 : ¬ 200 + 10 * (4 * i + q) + r < 40 := by omega
  have b13 : ¬ 200 + 10 * (4 * i + q) + r < 90 := by omega
  have b14 : ¬ 200 + 10 * (4 * i + q) + r < 100 := by omega
  have b15 : ¬ 200 + 10 * (4 * i + q) + r < 160 := by omega
  have b16 : ¬ 200 + 10 * (4 * i + q) + r < 200 := by omega
  have b17 : 200 + 10 * (4 * i + q) + r < 440 := by omega
  have c : i < n ∧ q < m := ⟨hi, hq⟩
  simp only [cx, cS, e, a1, e2, a2, a3, b1, b2, b3, b4, b5, b6, b7, b8, b9, b10, b11, b12, b13, b14, b15, b16, b17, c, if_false, if_true, and_self]
  by_cases h0 : r = 0
  · simp only [h0, if_true]
  · by_cases h1 : r = 1
    · simp only [h1, if_true]
    · have h2 : r = 2 := by omega
      simp only [h2, if_true]
theorem cx_Ln {Y : Yc} {ad : Nat → Nat} {df : Nat} {g : MG} {i q n m : Nat} (hn : g 32 2 = nI n) (hi : i < n) (h6 : n ≤ 6) (hm : g (101 + 10 * i) 2 = nI m) (hq : q < m) (h4 : m ≤ 4) : cx Y ad df g (200 + 10 * (4 * i + q)) = some (.inr (2, [.ref (ad (200 + 10 * (4 * i + q) + 1)), .int (g (200 + 10 * (4 * i + q)) 1), .ref (ad (200 + 10 * (4 * i + q) + 2)), va_rf (fR ad (g (200 + 10 * (4 * i + q)) 3)), .int (g (200 + 10 * (4 * i + q)) 4), .int (g (200 + 10 * (4 * i + q)) 5)])) := cx_Lr 0 hn hi h6 hm hq h4 (by omega)
theorem cx_Ll {Y : Yc} {ad : Nat → Nat} {df : Nat} {g : MG} {i q n m : Nat} (hn : g 32 2 = nI n) (hi : i < n) (h6 : n ≤ 6) (hm : g (101 + 10 * i) 2 = nI m) (hq : q < m) (h4 : m ≤ 4) : cx Y ad df g (200 + 10 * (4 * i + q) + 1) = some (.inl (Y.1, 8, .inl (g (200 + 10 * (4 * i + q) + 1)))) := cx_Lr 1 hn hi h6 hm hq h4 (by omega)
theorem cx_Lt {Y : Yc} {ad : Nat → Nat} {df : Nat} {g : MG} {i q n m : Nat} (hn : g 32 2 = nI n) (hi : i < n) (h6 : n ≤ 6) (hm : g (101 + 10 * i) 2 = nI m) (hq : q < m) (h4 : m ≤ 4) : cx Y ad df g (200 + 10 * (4 * i + q) + 2) = some (.inl (Y.1, 10, .inl (g (200 + 10 * (4 * i + q) + 2)))) := cx_Lr 2 hn hi h6 hm hq h4 (by omega)
-- THE LOCALS: a list by place
def asc (lo : Lo) : List (Nat × Value) := (List.range lo.length).filterMap (fun i => match lo[i]? with | some (some v) => some (i, v) | _ => none)
theorem asc_mem {lo : Lo} {i : Nat} {v : Value} : (i, v) ∈ asc lo ↔ lo[i]? = some (some v) := by
  unfold asc
  rw [List.mem_filterMap]
  constructor
  · rintro ⟨j, -, h⟩
    split at h
    · next w hw => cases h; exact hw
    · cases h
  · intro h
    refine ⟨i, List.mem_range.mpr (List.getElem?_eq_some_iff.mp h).1, ?_⟩
    rw [h]
def Lv (ls : Array Slot) (nL : Nat) (lo : Lo) : Prop := lo.length ≤ nL ∧ lv_has ls nL (asc lo)
theorem Lv.at {ls : Array Slot} {nL : Nat} {lo : Lo} (h : Lv ls nL lo) {i : Nat} {v : Value} (hv : lo[i]? = some (some v)) : ls[i]? = some (.val v) := h.2.2.2 (i, v) (asc_mem.mpr hv)
def ck1 (lo : Lo) (i : Nat) : Bool := match i with
  | 0 => true
  | k + 1 => match lo[k]? with
    | some (some (.long _)) => false
    | some (some (.double _)) => false
    | _ => true
theorem ck1_cat {lo : Lo} {k : Nat} {v : Value} (h : ck1 lo (k + 1) = true) (hv : lo[k]? = some (some v)) : v.category = 1 := by
  cases v <;> first | rfl | (simp [ck1, hv] at h)
theorem Lv.st1 {ls : Array Slot} {nL : Nat} {lo : Lo} {i : Nat} {v : Value} (hlen : lo.length ≤ nL) (hi : i < lo.length) (hck : ck1 lo i = true) (h : lv_has ls nL ((i, v) :: (asc lo).filter (fun q => !(q.1 == i) && !(q.1 + 1 == i && q.2.category == 2)))) : Lv ls nL (lo.set i (some v)) := by
  refine ⟨by rw [List.length_set]; exact hlen, h.1, h.2.1, fun q hq => ?_⟩
  obtain ⟨j, w⟩ := q
  have hq' := asc_mem.mp hq
  by_cases hj : j = i
  · subst hj
    rw [List.getElem?_set_self hi] at hq'
    cases hq'
    exact h.2.2 (j, v) List.mem_cons_self
  · rw [List.getElem?_set_ne (Ne.symm hj)] at hq'
    refine h.2.2 (j, w) (List.mem_cons_of_mem _ (List.mem_filter.mpr ⟨asc_mem.mpr hq', ?_⟩))
    have c2 : ¬ (j + 1 = i ∧ w.category = 2) := by
      rintro ⟨h1, h2⟩
      subst h1
      rw [ck1_cat hck hq'] at h2
      cases h2
    simp only [Bool.and_eq_true, Bool.not_eq_true', beq_eq_false_iff_ne, ne_eq, Bool.and_eq_false_iff]
    refine ⟨hj, ?_⟩
    by_cases h1 : j + 1 = i
    · exact Or.inr fun h2 => c2 ⟨h1, h2⟩
    · exact Or.inl h1
theorem Lv.st2 {ls : Array Slot} {nL : Nat} {lo : Lo} {i : Nat} {v : Value} (hlen : lo.length ≤ nL) (hi : i + 1 < lo.length) (hck : ck1 lo i = true) (h : lv_has ls nL ((i, v) :: (asc lo).filter (fun q => !(q.1 == i) && (!(q.1 == i + 1) && !(q.1 + 1 == i && q.2.category == 2))))) : Lv ls nL ((lo.set i (some v)).set (i + 1) none) := by
  refine ⟨by rw [List.length_set, List.length_set]; exact hlen, h.1, h.2.1, fun q hq => ?_⟩
  obtain ⟨j, w⟩ := q
  have hq' := asc_mem.mp hq
  by_cases hj1 : j = i + 1
  · subst hj1
    rw [List.getElem?_set_self (by rw [List.length_set]; exact hi)] at hq'
    cases hq'
  · rw [List.getElem?_set_ne (Ne.symm hj1)] at hq'
    by_cases hj : j = i
    · subst hj
      rw [List.getElem?_set_self (by omega)] at hq'
      cases hq'
      exact h.2.2 (j, v) List.mem_cons_self
    · rw [List.getElem?_set_ne (Ne.symm hj)] at hq'
      refine h.2.2 (j, w) (List.mem_cons_of_mem _ (List.mem_filter.mpr ⟨asc_mem.mpr hq', ?_⟩))
      have c2 : ¬ (j + 1 = i ∧ w.category = 2) := by
        rintro ⟨h1, h2⟩
        subst h1
        rw [ck1_cat hck hq'] at h2
        cases h2
      simp only [Bool.and_eq_true, Bool.not_eq_true', beq_eq_false_iff_ne, ne_eq, Bool.and_eq_false_iff]
      refine ⟨hj, hj1, ?_⟩
      by_cases h1 : j + 1 = i
      · exact Or.inr fun h2 => c2 ⟨h1, h2⟩
      · exact Or.inl h1
