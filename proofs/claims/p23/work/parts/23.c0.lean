/-! THE CLASS: where its objects lie -/
theorem lk_n {k : Nat} (h1 : k ≠ 31) (h2 : k ≠ 32) (h3 : k < 100 ∨ 160 ≤ k ∨ k % 10 ≠ 1) : lk k = false := by
  have e1 : (k == 31) = false := by simpa using h1
  have e2 : (k == 32) = false := by simpa using h2
  unfold lk
  rw [e1, e2]
  rcases h3 with h | h | h
  · have : decide (100 ≤ k) = false := by simp; omega
    rw [this]; rfl
  · have : decide (k < 160) = false := by simp; omega
    rw [this]; simp
  · have : (k % 10 == 1) = false := by simpa using h
    rw [this]; simp
/-- fount i, poster p, line q of poster p are there -/
def FnP (g : MG) (i : Nat) : Prop := ∃ n, g 31 2 = nI n ∧ i < n ∧ n ≤ 5
def PsP (g : MG) (p : Nat) : Prop := ∃ n, g 32 2 = nI n ∧ p < n ∧ n ≤ 6
def LnP (g : MG) (p q : Nat) : Prop := PsP g p ∧ ∃ m, g (101 + 10 * p) 2 = nI m ∧ q < m ∧ m ≤ 4
theorem FnP.lt {g : MG} {i : Nat} (h : FnP g i) : i < 5 := by obtain ⟨n, -, h1, h2⟩ := h; omega
theorem PsP.lt {g : MG} {p : Nat} (h : PsP g p) : p < 6 := by obtain ⟨n, -, h1, h2⟩ := h; omega
theorem LnP.lt {g : MG} {p q : Nat} (h : LnP g p q) : p < 6 ∧ q < 4 := ⟨h.1.lt, by obtain ⟨-, n, -, h1, h2⟩ := h; omega⟩
theorem FnP.e {g g' : MG} {i : Nat} (h : FnP g i) (e : g' 31 = g 31) : FnP g' i := by unfold FnP; rw [e]; exact h
theorem PsP.e {g g' : MG} {p : Nat} (h : PsP g p) (e : g' 32 = g 32) : PsP g' p := by unfold PsP; rw [e]; exact h
theorem LnP.e {g g' : MG} {p q : Nat} (h : LnP g p q) (e : g' 32 = g 32) (e2 : g' (101 + 10 * p) = g (101 + 10 * p)) : LnP g' p q := ⟨h.1.e e, by rw [e2]; exact h.2⟩
theorem FnP.w {g : MG} {i k j : Nat} {x : Int32} (h : FnP g i) (hk : lk k = false) : FnP (wr g k j x) i := h.e (wr_row _ _ _ _ (by rintro rfl; simp [lk] at hk))
theorem PsP.w {g : MG} {p k j : Nat} {x : Int32} (h : PsP g p) (hk : lk k = false) : PsP (wr g k j x) p := h.e (wr_row _ _ _ _ (by rintro rfl; simp [lk] at hk))
theorem LnP.w {g : MG} {p q k j : Nat} {x : Int32} (h : LnP g p q) (hk : lk k = false) : LnP (wr g k j x) p q := h.e (wr_row _ _ _ _ (by rintro rfl; simp [lk] at hk)) (wr_row _ _ _ _ (by rintro rfl; rw [lk_p h.lt.1] at hk; cases hk))
theorem FnP.r {g : MG} {i k : Nat} {f : Nat → Int32} (h : FnP g i) (hk : lk k = false) : FnP (rwr g k f) i := h.e (rwr_ne _ _ _ (by rintro rfl; simp [lk] at hk))
theorem PsP.r {g : MG} {p k : Nat} {f : Nat → Int32} (h : PsP g p) (hk : lk k = false) : PsP (rwr g k f) p := h.e (rwr_ne _ _ _ (by rintro rfl; simp [lk] at hk))
theorem LnP.r {g : MG} {p q k : Nat} {f : Nat → Int32} (h : LnP g p q) (hk : lk k = false) : LnP (rwr g k f) p q := h.e (rwr_ne _ _ _ (by rintro rfl; simp [lk] at hk)) (rwr_ne _ _ _ (by rintro rfl; rw [lk_p h.lt.1] at hk; cases hk))
section CXL
variable {Y : Yc} {ad : Nat → Nat} {df : Nat} {g : MG}
theorem cxF {i : Nat} (h : FnP g i) : cx Y ad df g (40 + 10 * i) = some (.inr (1, [.int (g (40 + 10 * i) 0), .int (g (40 + 10 * i) 1), .ref (ad (40 + 10 * i + 1)), .ref (ad (40 + 10 * i + 2)), .ref (ad (40 + 10 * i + 3)), .ref (ad (40 + 10 * i + 4))])) := by
  obtain ⟨n, h1, h2, h3⟩ := h
  exact cx_F h1 h2 h3
theorem cxFa {i : Nat} (r : Nat) (h : FnP g i) (hr : 1 ≤ r ∧ r < 5) : cx Y ad df g (40 + 10 * i + r) = some (.inl (Y.1, 10, .inl (g (40 + 10 * i + r)))) := by
  obtain ⟨n, h1, h2, h3⟩ := h
  exact cx_Fa r h1 h2 h3 hr
theorem cxP {p : Nat} (h : PsP g p) : cx Y ad df g (100 + 10 * p) = some (.inr (3, [.int (g (100 + 10 * p) 0), .int (g (100 + 10 * p) 1), .ref (ad (100 + 10 * p + 1)), .int (g (100 + 10 * p) 3), .int (g (100 + 10 * p) 4)])) := by
  obtain ⟨n, h1, h2, h3⟩ := h
  exact cx_P h1 h2 h3
theorem cxPL {p : Nat} (h : PsP g p) : cx Y ad df g (100 + 10 * p + 1) = some (cLi ad df (g (100 + 10 * p + 1)) (100 + 10 * p + 1 + 1)) := by
  obtain ⟨n, h1, h2, h3⟩ := h
  exact cx_PL h1 h2 h3
theorem cxPE {p : Nat} (h : PsP g p) : cx Y ad df g (100 + 10 * p + 1 + 1) = cEd Y (g (100 + 10 * p + 1) 2) (fun j => ad (200 + 10 * (4 * p + j))) := by
  obtain ⟨n, h1, h2, h3⟩ := h
  exact cx_PE h1 h2 h3
theorem cxLn {p q : Nat} (h : LnP g p q) : cx Y ad df g (200 + 10 * (4 * p + q)) = some (.inr (2, [.ref (ad (200 + 10 * (4 * p + q) + 1)), .int (g (200 + 10 * (4 * p + q)) 1), .ref (ad (200 + 10 * (4 * p + q) + 2)), va_rf (fR ad (g (200 + 10 * (4 * p + q)) 3)), .int (g (200 + 10 * (4 * p + q)) 4), .int (g (200 + 10 * (4 * p + q)) 5)])) := by
  obtain ⟨⟨n, h1, h2, h3⟩, m, h4, h5, h6⟩ := h
  exact cx_Ln h1 h2 h3 h4 h5 h6
theorem cxLl {p q : Nat} (h : LnP g p q) : cx Y ad df g (200 + 10 * (4 * p + q) + 1) = some (.inl (Y.1, 8, .inl (g (200 + 10 * (4 * p + q) + 1)))) := by
  obtain ⟨⟨n, h1, h2, h3⟩, m, h4, h5, h6⟩ := h
  exact cx_Ll h1 h2 h3 h4 h5 h6
theorem cxLt {p q : Nat} (h : LnP g p q) : cx Y ad df g (200 + 10 * (4 * p + q) + 2) = some (.inl (Y.1, 10, .inl (g (200 + 10 * (4 * p + q) + 2)))) := by
  obtain ⟨⟨n, h1, h2, h3⟩, m, h4, h5, h6⟩ := h
  exact cx_Lt h1 h2 h3 h4 h5 h6
theorem cxLn_w4 {p q : Nat} (h : LnP g p q) (x : Int32) : cx Y ad df (wr g (200 + 10 * (4 * p + q)) 4 x) (200 + 10 * (4 * p + q)) = some (.inr (2, [.ref (ad (200 + 10 * (4 * p + q) + 1)), .int (g (200 + 10 * (4 * p + q)) 1), .ref (ad (200 + 10 * (4 * p + q) + 2)), va_rf (fR ad (g (200 + 10 * (4 * p + q)) 3)), .int x, .int (g (200 + 10 * (4 * p + q)) 5)])) := by
  have hl := h.lt
  rw [cxLn (h.w (lk_n (by omega) (by omega) (by omega))), wr_same, wr_ne _ _ _ _ (Or.inr (by decide)), wr_ne _ _ _ _ (Or.inr (by decide)), wr_ne _ _ _ _ (Or.inr (by decide))]
theorem cxLn_w5 {p q : Nat} (h : LnP g p q) (x : Int32) : cx Y ad df (wr g (200 + 10 * (4 * p + q)) 5 x) (200 + 10 * (4 * p + q)) = some (.inr (2, [.ref (ad (200 + 10 * (4 * p + q) + 1)), .int (g (200 + 10 * (4 * p + q)) 1), .ref (ad (200 + 10 * (4 * p + q) + 2)), va_rf (fR ad (g (200 + 10 * (4 * p + q)) 3)), .int (g (200 + 10 * (4 * p + q)) 4), .int x])) := by
  have hl := h.lt
  rw [cxLn (h.w (lk_n (by omega) (by omega) (by omega))), wr_same, wr_ne _ _ _ _ (Or.inr (by decide)), wr_ne _ _ _ _ (Or.inr (by decide)), wr_ne _ _ _ _ (Or.inr (by decide))]
theorem fR_nI {ad : Nat → Nat} {i : Nat} (h : i < 2 ^ 31) : fR ad (nI i) = some (ad (40 + 10 * i)) := by
  unfold fR
  rw [if_neg (nI_pos h), iz_nI h]
theorem cxLn_w3 {p q i : Nat} (h : LnP g p q) (hi : i < 5) : cx Y ad df (wr g (200 + 10 * (4 * p + q)) 3 (nI i)) (200 + 10 * (4 * p + q)) = some (.inr (2, [.ref (ad (200 + 10 * (4 * p + q) + 1)), .int (g (200 + 10 * (4 * p + q)) 1), .ref (ad (200 + 10 * (4 * p + q) + 2)), .ref (ad (40 + 10 * i)), .int (g (200 + 10 * (4 * p + q)) 4), .int (g (200 + 10 * (4 * p + q)) 5)])) := by
  have hl := h.lt
  rw [cxLn (h.w (lk_n (by omega) (by omega) (by omega))), wr_same, wr_ne _ _ _ _ (Or.inr (by decide)), wr_ne _ _ _ _ (Or.inr (by decide)), wr_ne _ _ _ _ (Or.inr (by decide)), fR_nI (by omega)]
  rfl
theorem cxP_w3 {p : Nat} (h : PsP g p) (x : Int32) : cx Y ad df (wr g (100 + 10 * p) 3 x) (100 + 10 * p) = some (.inr (3, [.int (g (100 + 10 * p) 0), .int (g (100 + 10 * p) 1), .ref (ad (100 + 10 * p + 1)), .int x, .int (g (100 + 10 * p) 4)])) := by
  have hl := h.lt
  rw [cxP (h.w (lk_n (by omega) (by omega) (by omega))), wr_same, wr_ne _ _ _ _ (Or.inr (by decide)), wr_ne _ _ _ _ (Or.inr (by decide)), wr_ne _ _ _ _ (Or.inr (by decide))]
theorem cxP_w4 {p : Nat} (h : PsP g p) (x : Int32) : cx Y ad df (wr g (100 + 10 * p) 4 x) (100 + 10 * p) = some (.inr (3, [.int (g (100 + 10 * p) 0), .int (g (100 + 10 * p) 1), .ref (ad (100 + 10 * p + 1)), .int (g (100 + 10 * p) 3), .int x])) := by
  have hl := h.lt
  rw [cxP (h.w (lk_n (by omega) (by omega) (by omega))), wr_same, wr_ne _ _ _ _ (Or.inr (by decide)), wr_ne _ _ _ _ (Or.inr (by decide)), wr_ne _ _ _ _ (Or.inr (by decide))]
end CXL
