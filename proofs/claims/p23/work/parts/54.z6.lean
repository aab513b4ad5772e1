/-! THE WORLD GROWS: what a cell refers to; cells that come anew -/
section ZREG
variable {Y : Yc} {ad ad' : Nat → Nat} {df : Nat} {n1 n1' n2 n2' : Int32} {nl nl' : Nat → Int32} {r : Nat → Int32} {k : Nat}
theorem cS_f (h : 40 ≤ k ∧ k < 90) : cS Y ad df n1 n2 nl r k = if (k - 40) / 10 < iz n1 then (if (k - 40) % 10 = 0 then some (.inr (1, [.int (r 0), .int (r 1), .ref (ad (k + 1)), .ref (ad (k + 2)), .ref (ad (k + 3)), .ref (ad (k + 4))])) else if (k - 40) % 10 < 5 then some (.inl (Y.1, 10, .inl r)) else none) else none := by
  have b1 : k ≠ 0 := by omega
  have b2 : ¬ k < 5 := by omega
  have b3 : ¬ k < 26 := by omega
  have b4 : ¬ k < 30 := by omega
  have b5 : ¬ k = 30 := by omega
  have b6 : ¬ k = 31 := by omega
  have b7 : ¬ k = 32 := by omega
  have b8 : ¬ k = 33 := by omega
  have b9 : ¬ k < 36 := by omega
  have b10 : ¬ k = 36 := by omega
  have b11 : ¬ k = 37 := by omega
  have b12 : ¬ k < 40 := by omega
  simp only [cS, b1, b2, b3, b4, b5, b6, b7, b8, b9, b10, b11, b12, h.2, if_false, if_true]
theorem cS_p (h : 100 ≤ k ∧ k < 160) : cS Y ad df n1 n2 nl r k = if (k - 100) / 10 < iz n2 then (if (k - 100) % 10 = 0 then some (.inr (3, [.int (r 0), .int (r 1), .ref (ad (k + 1)), .int (r 3), .int (r 4)])) else if (k - 100) % 10 = 1 then some (cLi ad df r (k + 1)) else if (k - 100) % 10 = 2 then cEd Y (nl ((k - 100) / 10)) (fun j => ad (200 + 10 * (4 * ((k - 100) / 10) + j))) else none) else none := by
  have b1 : k ≠ 0 := by omega
  have b2 : ¬ k < 5 := by omega
  have b3 : ¬ k < 26 := by omega
  have b4 : ¬ k < 30 := by omega
  have b5 : ¬ k = 30 := by omega
  have b6 : ¬ k = 31 := by omega
  have b7 : ¬ k = 32 := by omega
  have b8 : ¬ k = 33 := by omega
  have b9 : ¬ k < 36 := by omega
  have b10 : ¬ k = 36 := by omega
  have b11 : ¬ k = 37 := by omega
  have b12 : ¬ k < 40 := by omega
  have b13 : ¬ k < 90 := by omega
  have b14 : ¬ k < 100 := by omega
  simp only [cS, b1, b2, b3, b4, b5, b6, b7, b8, b9, b10, b11, b12, b13, b14, h.2, if_false, if_true]
theorem cS_l (h : 200 ≤ k ∧ k < 440) : cS Y ad df n1 n2 nl r k = if (k - 200) / 40 < iz n2 ∧ ((k - 200) / 10) % 4 < iz (nl ((k - 200) / 40)) then (if (k - 200) % 10 = 0 then some (.inr (2, [.ref (ad (k + 1)), .int (r 1), .ref (ad (k + 2)), va_rf (fR ad (r 3)), .int (r 4), .int (r 5)])) else if (k - 200) % 10 = 1 then some (.inl (Y.1, 8, .inl r)) else if (k - 200) % 10 = 2 then some (.inl (Y.1, 10, .inl r)) else none) else none := by
  have b1 : k ≠ 0 := by omega
  have b2 : ¬ k < 5 := by omega
  have b3 : ¬ k < 26 := by omega
  have b4 : ¬ k < 30 := by omega
  have b5 : ¬ k = 30 := by omega
  have b6 : ¬ k = 31 := by omega
  have b7 : ¬ k = 32 := by omega
  have b8 : ¬ k = 33 := by omega
  have b9 : ¬ k < 36 := by omega
  have b10 : ¬ k = 36 := by omega
  have b11 : ¬ k = 37 := by omega
  have b12 : ¬ k < 40 := by omega
  have b13 : ¬ k < 90 := by omega
  have b14 : ¬ k < 100 := by omega
  have b15 : ¬ k < 160 := by omega
  have b16 : ¬ k < 200 := by omega
  simp only [cS, b1, b2, b3, b4, b5, b6, b7, b8, b9, b10, b11, b12, b13, b14, b15, b16, h.2, if_false, if_true]
theorem cS_30 : cS Y ad df n1 n2 nl r 30 = some (.inr (4, [.ref (ad 31), .ref (ad 32), .ref (ad 33), .ref (ad 34), .ref (ad 35), .int (r 5), .int (r 6)])) := rfl
theorem cS_31 : cS Y ad df n1 n2 nl r 31 = some (cLi ad df r 36) := rfl
theorem cS_32 : cS Y ad df n1 n2 nl r 32 = some (cLi ad df r 37) := rfl
theorem cS_33 : cS Y ad df n1 n2 nl r 33 = some (.inl (Y.1, 10, .inl r)) := rfl
theorem cS_34 : cS Y ad df n1 n2 nl r 34 = some (.inl (Y.1, 4, .inl r)) := rfl
theorem cS_35 : cS Y ad df n1 n2 nl r 35 = some (.inl (Y.1, 4, .inl r)) := rfl
theorem cS_36 : cS Y ad df n1 n2 nl r 36 = cEd Y n1 (fun j => ad (40 + 10 * j)) := rfl
theorem cS_37 : cS Y ad df n1 n2 nl r 37 = cEd Y n2 (fun j => ad (100 + 10 * j)) := rfl
theorem cS_1 (h : k < 30) : cS Y ad df n1 n2 nl r k = none := by
  simp only [cS, h, if_true]
theorem cS_law (h : 600 ≤ k ∧ k < 1200) : cS Y ad df n1 n2 nl r k = cW Y ad (Y.m k) := by
  have b4 : ¬ k < 30 := by omega
  have b5 : ¬ k = 30 := by omega
  have b6 : ¬ k = 31 := by omega
  have b7 : ¬ k = 32 := by omega
  have b8 : ¬ k = 33 := by omega
  have b9 : ¬ k < 36 := by omega
  have b10 : ¬ k = 36 := by omega
  have b11 : ¬ k = 37 := by omega
  have b12 : ¬ k < 40 := by omega
  have b13 : ¬ k < 90 := by omega
  have b14 : ¬ k < 100 := by omega
  have b15 : ¬ k < 160 := by omega
  have b16 : ¬ k < 200 := by omega
  have b17 : ¬ k < 440 := by omega
  have b18 : ¬ k < 600 := by omega
  simp only [cS, b4, b5, b6, b7, b8, b9, b10, b11, b12, b13, b14, b15, b16, b17, b18, h.2, if_false, if_true]
theorem k_lo {k : Nat} (hk : k < 36) : k = 30 ∨ k = 31 ∨ k = 32 ∨ k = 33 ∨ k = 34 ∨ k = 35 ∨ k < 30 := by omega
theorem cLi_ad {e : Nat} (h : ¬ r 2 = 0 → ad' e = ad e) : cLi ad' df r e = cLi ad df r e := by
  unfold cLi
  by_cases hr : r 2 = 0
  · rw [if_pos hr, if_pos hr]
  · rw [if_neg hr, if_neg hr, h hr]
/-- the cells that are there whatever there is: below 36 -/
theorem cS_lo (hk : k < 36) (h : ∀ q, q < 36 → ad' q = ad q) (h1 : k = 31 → ¬ r 2 = 0 → ad' 36 = ad 36) (h2 : k = 32 → ¬ r 2 = 0 → ad' 37 = ad 37) : cS Y ad' df n1' n2' nl' r k = cS Y ad df n1 n2 nl r k := by
  rcases k_lo hk with rfl | rfl | rfl | rfl | rfl | rfl | c
  · rw [cS_30, cS_30, h 31 (by decide), h 32 (by decide), h 33 (by decide), h 34 (by decide), h 35 (by decide)]
  · rw [cS_31, cS_31, cLi_ad (h1 rfl)]
  · rw [cS_32, cS_32, cLi_ad (h2 rfl)]
  · rw [cS_33, cS_33]
  · rw [cS_34, cS_34]
  · rw [cS_35, cS_35]
  · rw [cS_1 c, cS_1 c]
theorem cS_no (hk : (37 < k ∧ k < 40) ∨ (90 ≤ k ∧ k < 100) ∨ (160 ≤ k ∧ k < 200) ∨ (440 ≤ k ∧ k < 600) ∨ 1200 ≤ k) : cS Y ad df n1 n2 nl r k = none := by
  have b1 : k ≠ 0 := by omega
  have b2 : ¬ k < 5 := by omega
  have b3 : ¬ k < 26 := by omega
  have b4 : ¬ k < 30 := by omega
  have b5 : ¬ k = 30 := by omega
  have b6 : ¬ k = 31 := by omega
  have b7 : ¬ k = 32 := by omega
  have b8 : ¬ k = 33 := by omega
  have b9 : ¬ k < 36 := by omega
  have b10 : ¬ k = 36 := by omega
  have b11 : ¬ k = 37 := by omega
  rcases hk with h | h | h | h | h
  · simp only [cS, b1, b2, b3, b4, b5, b6, b7, b8, b9, b10, b11, h.2, if_false, if_true]
  · have c1 : ¬ k < 40 := by omega
    have c2 : ¬ k < 90 := by omega
    simp only [cS, b1, b2, b3, b4, b5, b6, b7, b8, b9, b10, b11, c1, c2, h.2, if_false, if_true]
  · have c1 : ¬ k < 40 := by omega
    have c2 : ¬ k < 90 := by omega
    have c3 : ¬ k < 100 := by omega
    have c4 : ¬ k < 160 := by omega
    simp only [cS, b1, b2, b3, b4, b5, b6, b7, b8, b9, b10, b11, c1, c2, c3, c4, h.2, if_false, if_true]
  · have c1 : ¬ k < 40 := by omega
    have c2 : ¬ k < 90 := by omega
    have c3 : ¬ k < 100 := by omega
    have c4 : ¬ k < 160 := by omega
    have c5 : ¬ k < 200 := by omega
    have c6 : ¬ k < 440 := by omega
    simp only [cS, b1, b2, b3, b4, b5, b6, b7, b8, b9, b10, b11, c1, c2, c3, c4, c5, c6, h.2, if_false, if_true]
  · have c1 : ¬ k < 40 := by omega
    have c2 : ¬ k < 90 := by omega
    have c3 : ¬ k < 100 := by omega
    have c4 : ¬ k < 160 := by omega
    have c5 : ¬ k < 200 := by omega
    have c6 : ¬ k < 440 := by omega
    have c7 : ¬ k < 600 := by omega
    have c8 : ¬ k < 1200 := by omega
    simp only [cS, b1, b2, b3, b4, b5, b6, b7, b8, b9, b10, b11, c1, c2, c3, c4, c5, c6, c7, c8, if_false]
/-- which region a key lies in -/
theorem k_reg (k : Nat) : k < 36 ∨ k = 36 ∨ k = 37 ∨ (40 ≤ k ∧ k < 90) ∨ (100 ≤ k ∧ k < 160) ∨ (200 ≤ k ∧ k < 440) ∨ (600 ≤ k ∧ k < 1200) ∨ ((37 < k ∧ k < 40) ∨ (90 ≤ k ∧ k < 100) ∨ (160 ≤ k ∧ k < 200) ∨ (440 ≤ k ∧ k < 600) ∨ 1200 ≤ k) := by omega
end ZREG
/-- the same constants, other addresses -/
def Zc.wa (Z : Zc) (ad' : Nat → Nat) : Zc := (Z.1, Z.2.1, ad', Z.2.2.2)
/-- where the world is rebuilt: the cells that N names stand in a list w, the others as they were -/
theorem Hw_new {Z : Zc} {g g' : MG} {H H1 : Heap} (hw : HwZ Z g H) {A : Nat → Prop} {w : va_W} {ad' : Nat → Nat} (hP : va_P Z.D vwCl w H1) (hD : va_D A w) (hA : ∀ q, A q → Z.z ≤ q) (N : Nat → Option Nat) (hN : ∀ k i, N k = some i → ∃ e, cx Z.Y ad' Z.df g' k = some e ∧ w[i]? = some (ad' k, e)) (hinj : ∀ a b i, N a = some i → N b = some i → a = b)
    (hold : ∀ k, N k = none → ∀ e, cx Z.Y ad' Z.df g' k = some e → cx Z.Y Z.ad Z.df g k = some e ∧ ad' k = Z.ad k) (hk : ∀ k, N k = none → cx Z.Y Z.ad Z.df g k ≠ none → H1[Z.ad k]? = H[Z.ad k]? ∧ ¬ A (Z.ad k)) (hwf : Wf g') : HwZ (Z.wa ad') g' H1 := by
  refine ⟨fun k e he => ?_, fun a b ha hb hab => ?_, hwf⟩
  · have he' : cx Z.Y ad' Z.df g' k = some e := he
    cases hn : N k with
    | some i =>
      obtain ⟨e', h1, h2⟩ := hN k i hn
      rw [he'] at h1
      cases h1
      exact ⟨hP i _ h2, hA _ (hD.2 i _ h2)⟩
    | none =>
      obtain ⟨h1, h2⟩ := hold k hn e he'
      obtain ⟨h3, -⟩ := hk k hn (by rw [h1]; simp)
      obtain ⟨h5, h6⟩ := hw.1 k e h1
      refine ⟨?_, ?_⟩
      · show va_at Z.D vwCl (ad' k, e) H1
        rw [h2]
        exact h5.kept h3
      · show Z.z ≤ ad' k
        rw [h2]; exact h6
  · have hab : ad' a = ad' b := hab
    have ha : cx Z.Y ad' Z.df g' a ≠ none := ha
    have hb : cx Z.Y ad' Z.df g' b ≠ none := hb
    obtain ⟨ea, hea⟩ := Option.ne_none_iff_exists'.mp ha
    obtain ⟨eb, heb⟩ := Option.ne_none_iff_exists'.mp hb
    cases hna : N a with
    | some i =>
      obtain ⟨e1, -, h1⟩ := hN a i hna
      cases hnb : N b with
      | some j =>
        obtain ⟨e2, -, h2⟩ := hN b j hnb
        have := hD.1 i j _ _ h1 h2 hab
        subst this
        exact hinj a b i hna hnb
      | none =>
        obtain ⟨h3, h4⟩ := hold b hnb eb heb
        have h5 := (hk b hnb (by rw [h3]; simp)).2
        have h6 := hD.2 i _ h1
        rw [show ((ad' a, e1) : Nat × va_E).1 = Z.ad b from hab.trans h4] at h6
        exact absurd h6 h5
    | none =>
      obtain ⟨h3, h4⟩ := hold a hna ea hea
      cases hnb : N b with
      | some j =>
        obtain ⟨e2, -, h2⟩ := hN b j hnb
        have h5 := (hk a hna (by rw [h3]; simp)).2
        have h6 := hD.2 j _ h2
        rw [show ((ad' b, e2) : Nat × va_E).1 = Z.ad a from hab.symm.trans h4] at h6
        exact absurd h6 h5
      | none =>
        obtain ⟨h5, h6⟩ := hold b hnb eb heb
        exact hw.2.1 a b (by rw [h3]; simp) (by rw [h5]; simp) (h4.symm.trans (hab.trans h6))
