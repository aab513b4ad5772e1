/-! THE WORLD GROWS: a fount more -/
/-- the world with fount n more, of height h -/
def ftG (g : MG) (n : Nat) (h : Int32) : MG := fun k j => if k = 31 then (if j = 2 then nI (n + 1) else g k j) else if k = 40 + 10 * n then (if j = 0 then nI n else if j = 1 then h else 0) else if 40 + 10 * n < k ∧ k < 45 + 10 * n then 0 else g k j
theorem ftG_o {g : MG} {n k : Nat} {h : Int32} (h1 : k ≠ 31) (h2 : ¬ (40 + 10 * n ≤ k ∧ k < 45 + 10 * n)) : ftG g n h k = g k := by
  funext j
  unfold ftG
  rw [if_neg h1, if_neg (by omega), if_neg (by omega)]
theorem ftG_31 {g : MG} {n : Nat} {h : Int32} : ftG g n h 31 2 = nI (n + 1) := rfl
theorem ftG_f {g : MG} {n j : Nat} {h : Int32} (hn : n < 5) : ftG g n h (40 + 10 * n) j = if j = 0 then nI n else if j = 1 then h else 0 := by
  unfold ftG
  rw [if_neg (by omega), if_pos rfl]
theorem ftG_a {g : MG} {n r : Nat} {h : Int32} (hn : n < 5) (hr : 1 ≤ r ∧ r < 5) : ftG g n h (40 + 10 * n + r) = fun _ => 0 := by
  funext j
  unfold ftG
  rw [if_neg (by omega), if_neg (by omega), if_pos (by omega)]
theorem Wf_ft {g : MG} (h : Wf g) {n : Nat} {x : Int32} (hn : n < 5) (e : g 31 2 = nI n) : Wf (ftG g n x) := by
  obtain ⟨⟨m, hm, e1, hf⟩, ⟨n2, hn2, e2⟩, h3⟩ := h
  have hmn : m = n := nI_inj (by omega) (by omega) (e1.symm.trans e)
  subst hmn
  refine ⟨⟨m + 1, by omega, ftG_31, fun j hj => ?_⟩, ⟨n2, hn2, by rw [ftG_o (by decide) (by omega)]; exact e2⟩, fun p hp => ?_⟩
  · rw [ftG_o (by omega) (by omega)]
    rcases hf j hj with h | ⟨i, hi, h⟩
    · exact Or.inl h
    · exact Or.inr ⟨i, by omega, h⟩
  · rw [ftG_o (by omega) (by omega)]
    exact h3 p hp
/-- what was there is there, as it was -/
theorem ft_old {Y : Yc} {ad ad' : Nat → Nat} {df : Nat} {g : MG} (hwf : Wf g) {n : Nat} {h : Int32} (hn : n < 5) (e : g 31 2 = nI n) (hO : ∀ k, k ≠ 36 → ¬ (40 + 10 * n ≤ k ∧ k < 45 + 10 * n) → ad' k = ad k) {k : Nat} (h1 : k ≠ 31) (h2 : k ≠ 36) (h3 : ¬ (40 + 10 * n ≤ k ∧ k < 45 + 10 * n)) : cx Y ad' df (ftG g n h) k = cx Y ad df g k := by
  have e32 : ftG g n h 32 = g 32 := ftG_o (by decide) (by omega)
  have enl : (fun p => ftG g n h (101 + 10 * p) 2) = fun p => g (101 + 10 * p) 2 := by
    funext p
    by_cases hp : p < 6
    · rw [ftG_o (by omega) (by omega)]
    · rw [ftG_o (by omega) (by omega)]
  have ek : ftG g n h k = g k := ftG_o h1 h3
  unfold cx
  rw [enl, e32, ek, ftG_31, e]
  have i1 : iz (nI (n + 1)) = n + 1 := iz_nI (by omega)
  have i0 : iz (nI n) = n := iz_nI (by omega)
  rcases k_reg k with c | c | c | c | c | c | c | c
  · exact cS_lo c (fun q hq => hO q (by omega) (by omega)) (fun z => absurd z h1) (fun _ _ => hO 37 (by decide) (by omega))
  · exact absurd c h2
  · subst c
    rw [cS_37, cS_37]
    congr 1
    funext j
    exact hO _ (by omega) (by omega)
  · rw [cS_f c, cS_f c, i1, i0]
    by_cases hk : (k - 40) / 10 < n
    · rw [if_pos (by omega), if_pos hk]
      by_cases h0 : (k - 40) % 10 = 0
      · rw [if_pos h0, if_pos h0, hO (k + 1) (by omega) (by omega), hO (k + 2) (by omega) (by omega), hO (k + 3) (by omega) (by omega), hO (k + 4) (by omega) (by omega)]
      · rw [if_neg h0, if_neg h0]
    · rw [if_neg hk]
      by_cases hk2 : (k - 40) / 10 < n + 1
      · rw [if_pos hk2, if_neg (by omega), if_neg (by omega)]
      · rw [if_neg hk2]
  · rw [cS_p c, cS_p c, hO (k + 1) (by omega) (by omega), cLi_ad (fun _ => hO (k + 1) (by omega) (by omega))]
    have : (fun j => ad' (200 + 10 * (4 * ((k - 100) / 10) + j))) = fun j => ad (200 + 10 * (4 * ((k - 100) / 10) + j)) := by
      funext j
      exact hO _ (by omega) (by omega)
    rw [this]
  · rw [cS_l c, cS_l c, hO (k + 1) (by omega) (by omega), hO (k + 2) (by omega) (by omega)]
    by_cases h0 : (k - 200) % 10 = 0
    · have hf : fR ad' (g k 3) = fR ad (g k 3) := by
        obtain ⟨⟨m, hm, e1, hf⟩, -⟩ := hwf
        have hmn : m = n := nI_inj (by omega) (by omega) (e1.symm.trans e)
        subst hmn
        have hj : k = 200 + 10 * ((k - 200) / 10) := by omega
        rcases hf ((k - 200) / 10) (by omega) with h | ⟨i, hi, h⟩
        · rw [← hj] at h
          rw [h]
          rfl
        · rw [← hj] at h
          rw [h, fR_nI (by omega), fR_nI (by omega), hO _ (by omega) (by omega)]
      rw [hf]
    · rw [if_neg h0, if_neg h0]
  · rw [cS_law c, cS_law c]
    exact cW_ad (fun q hq => hO q (by omega) (by omega)) _
  · rw [cS_no c, cS_no c]
theorem in1 {Z : Zc} {g : MG} {H : Heap} {xs : va_W} {k : Nat} {e : va_E} (hw : HwZ Z g H) (hX : XsH Z g xs H) (hk : cx Z.Y Z.ad Z.df g k = some e) : va_P Z.D vwCl ((Z.ad k, e) :: xs) H ∧ va_D (fun q => q = Z.ad k ∨ AX Z g q) ((Z.ad k, e) :: xs) := by
  refine ⟨fun i q hq => ?_, fun i j x y hx hy hxy => ?_, fun i q hq => ?_⟩
  · cases i with
    | zero => cases hq; exact (hw.1 k e hk).1
    | succ i => exact hX.1 i q hq
  · cases i with
    | zero =>
      cases hx
      cases j with
      | zero => rfl
      | succ j => exact absurd hxy ((hX.2.2 j y hy).2 k (by rw [hk]; simp))
    | succ i =>
      cases j with
      | zero => cases hy; exact absurd hxy.symm ((hX.2.2 i x hx).2 k (by rw [hk]; simp))
      | succ j => exact congrArg Nat.succ (hX.2.1 i j x y hx hy hxy)
  · cases i with
    | zero => cases hq; exact Or.inl rfl
    | succ i => exact Or.inr (hX.2.2 i q hq)
theorem in2 {Z : Zc} {g : MG} {H : Heap} {xs : va_W} {k k2 : Nat} {e e2 : va_E} (hw : HwZ Z g H) (hX : XsH Z g xs H) (hk : cx Z.Y Z.ad Z.df g k = some e) (hk2 : cx Z.Y Z.ad Z.df g k2 = some e2) (hne : k ≠ k2) : va_P Z.D vwCl ((Z.ad k, e) :: (Z.ad k2, e2) :: xs) H ∧ va_D (fun q => q = Z.ad k ∨ q = Z.ad k2 ∨ AX Z g q) ((Z.ad k, e) :: (Z.ad k2, e2) :: xs) := by
  obtain ⟨h1, h2⟩ := in1 hw hX hk2
  have hn : Z.ad k ≠ Z.ad k2 := fun z => hne (hw.2.1 k k2 (by rw [hk]; simp) (by rw [hk2]; simp) z)
  have hA : ∀ q, (q = Z.ad k2 ∨ AX Z g q) → Z.ad k ≠ q := fun q hq z => by
    rcases hq with h | h
    · exact hn (z.trans h)
    · exact h.2 k (by rw [hk]; simp) z
  refine ⟨fun i q hq => ?_, fun i j x y hx hy hxy => ?_, fun i q hq => ?_⟩
  · cases i with
    | zero => cases hq; exact (hw.1 k e hk).1
    | succ i => exact h1 i q hq
  · cases i with
    | zero =>
      cases hx
      cases j with
      | zero => rfl
      | succ j => exact absurd hxy (hA _ (h2.2 j y hy))
    | succ i =>
      cases j with
      | zero => cases hy; exact absurd hxy.symm (hA _ (h2.2 i x hx))
      | succ j => exact congrArg Nat.succ (h2.1 i j x y hx hy hxy)
  · cases i with
    | zero => cases hq; exact Or.inl rfl
    | succ i => exact Or.inr (h2.2 i q hq)
/-- the law's own addresses stay -/
def adE (Z : Zc) (ad' : Nat → Nat) : Prop := (∀ k, k < 36 → ad' k = Z.ad k) ∧ ∀ k, 600 ≤ k → ad' k = Z.ad k
def ftA (ad : Nat → Nat) (n q x a1 a2 a3 a4 : Nat) : Nat → Nat := fun k => if k = 36 then q else if k = 40 + 10 * n then x else if k = 41 + 10 * n then a1 else if k = 42 + 10 * n then a2 else if k = 43 + 10 * n then a3 else if k = 44 + 10 * n then a4 else ad k
theorem ftA_o {ad : Nat → Nat} {n q x a1 a2 a3 a4 k : Nat} (h1 : k ≠ 36) (h2 : ¬ (40 + 10 * n ≤ k ∧ k < 45 + 10 * n)) : ftA ad n q x a1 a2 a3 a4 k = ad k := by
  unfold ftA
  rw [if_neg h1, if_neg (by omega), if_neg (by omega), if_neg (by omega), if_neg (by omega), if_neg (by omega)]
theorem ftA_x {ad : Nat → Nat} {n q x a1 a2 a3 a4 : Nat} : ftA ad n q x a1 a2 a3 a4 36 = q ∧ ftA ad n q x a1 a2 a3 a4 (40 + 10 * n) = x ∧ ftA ad n q x a1 a2 a3 a4 (40 + 10 * n + 1) = a1 ∧ ftA ad n q x a1 a2 a3 a4 (40 + 10 * n + 2) = a2 ∧ ftA ad n q x a1 a2 a3 a4 (40 + 10 * n + 3) = a3 ∧ ftA ad n q x a1 a2 a3 a4 (40 + 10 * n + 4) = a4 := by
  refine ⟨rfl, ?_, ?_, ?_, ?_, ?_⟩
  · unfold ftA; rw [if_neg (by omega), if_pos rfl]
  · unfold ftA; rw [if_neg (by omega), if_neg (by omega), if_pos (by omega)]
  · unfold ftA; rw [if_neg (by omega), if_neg (by omega), if_neg (by omega), if_pos (by omega)]
  · unfold ftA; rw [if_neg (by omega), if_neg (by omega), if_neg (by omega), if_neg (by omega), if_pos (by omega)]
  · unfold ftA; rw [if_neg (by omega), if_neg (by omega), if_neg (by omega), if_neg (by omega), if_neg (by omega), if_pos (by omega)]
/-- where the changed cells stand: by their places in the list that add leaves -/
def ftN (n p36 p31 px : Nat) : Nat → Option Nat := fun k => if k = 36 then some p36 else if k = 31 then some p31 else if k = 40 + 10 * n then some px else if k = 44 + 10 * n then some 3 else if k = 43 + 10 * n then some 4 else if k = 42 + 10 * n then some 5 else if k = 41 + 10 * n then some 6 else none
theorem ftN_no {n p36 p31 px k : Nat} (h : ftN n p36 p31 px k = none) : k ≠ 36 ∧ k ≠ 31 ∧ ¬ (40 + 10 * n ≤ k ∧ k < 45 + 10 * n) := by
  unfold ftN at h
  split at h
  · cases h
  · split at h
    · cases h
    · split at h
      · cases h
      · split at h
        · cases h
        · split at h
          · cases h
          · split at h
            · cases h
            · split at h
              · cases h
              · exact ⟨by assumption, by assumption, by omega⟩
theorem ftN_so {n p36 p31 px k i : Nat} (h : ftN n p36 p31 px k = some i) : (k = 36 ∧ i = p36) ∨ (k = 31 ∧ i = p31) ∨ (k = 40 + 10 * n ∧ i = px) ∨ (k = 40 + 10 * n + 4 ∧ i = 3) ∨ (k = 40 + 10 * n + 3 ∧ i = 4) ∨ (k = 40 + 10 * n + 2 ∧ i = 5) ∨ (k = 40 + 10 * n + 1 ∧ i = 6) := by
  unfold ftN at h
  split at h
  · cases h; exact Or.inl ⟨by assumption, rfl⟩
  · split at h
    · cases h; exact Or.inr (Or.inl ⟨by assumption, rfl⟩)
    · split at h
      · cases h; exact Or.inr (Or.inr (Or.inl ⟨by assumption, rfl⟩))
      · split at h
        · cases h; exact Or.inr (Or.inr (Or.inr (Or.inl ⟨by omega, rfl⟩)))
        · split at h
          · cases h; exact Or.inr (Or.inr (Or.inr (Or.inr (Or.inl ⟨by omega, rfl⟩))))
          · split at h
            · cases h; exact Or.inr (Or.inr (Or.inr (Or.inr (Or.inr (Or.inl ⟨by omega, rfl⟩)))))
            · split at h
              · cases h; exact Or.inr (Or.inr (Or.inr (Or.inr (Or.inr (Or.inr ⟨by omega, rfl⟩)))))
              · cases h
/-- the world behind add, of founts: w holds at p36 the row of the list, at p31 the list, at px the fount, behind them its rows -/
theorem Hw_ft {Z : Zc} {g : MG} {H H1 : Heap} (hw : HwZ Z g H) {n : Nat} {h : Int32} (hn : n < 5) (e : g 31 2 = nI n) {A : Nat → Prop} {w : va_W} {q x a1 a2 a3 a4 p36 p31 px : Nat} (hpd : p36 ≠ p31 ∧ p36 ≠ px ∧ p31 ≠ px ∧ p36 < 3 ∧ p31 < 3 ∧ px < 3) (hP : va_P Z.D vwCl w H1) (hD : va_D A w) (hA : ∀ a, A a → Z.z ≤ a) (hA2 : ∀ k, k ≠ 31 → k ≠ 36 → cx Z.Y Z.ad Z.df g k ≠ none → ¬ A (Z.ad k)) (hfr : ∀ a : Nat, a < H.size → ¬ A a → H1[a]? = H[a]?)
    {f : Nat → Option Nat} (hf : ∀ j, f j = if j < n then some (Z.ad (40 + 10 * j)) else none) (w36 : w[p36]? = some (q, .inl (Z.Y.2.1, 10, .inr (.inr (.inr (.inr (va_up f n (some x)))))))) (w31 : w[p31]? = some (Z.ad 31, .inr (0, [.int (nI (n + 1)), .ref q, .int (nI (n + 1))]))) (wx : w[px]? = some (x, .inr (1, [.int (nI n), .int h, .ref a1, .ref a2, .ref a3, .ref a4]))) (w3 : w[3]? = some (a4, .inl (Z.Y.1, 10, .inl (fun _ => 0)))) (w4 : w[4]? = some (a3, .inl (Z.Y.1, 10, .inl (fun _ => 0)))) (w5 : w[5]? = some (a2, .inl (Z.Y.1, 10, .inl (fun _ => 0)))) (w6 : w[6]? = some (a1, .inl (Z.Y.1, 10, .inl (fun _ => 0)))) : HwZ (Z.wa (ftA Z.ad n q x a1 a2 a3 a4)) (ftG g n h) H1 := by
  obtain ⟨x36, xx, x1, x2, x3, x4⟩ := @ftA_x Z.ad n q x a1 a2 a3 a4
  have hO : ∀ k, k ≠ 36 → ¬ (40 + 10 * n ≤ k ∧ k < 45 + 10 * n) → ftA Z.ad n q x a1 a2 a3 a4 k = Z.ad k := fun k h1 h2 => ftA_o h1 h2
  have ca : ∀ r, 1 ≤ r ∧ r < 5 → cx Z.Y (ftA Z.ad n q x a1 a2 a3 a4) Z.df (ftG g n h) (40 + 10 * n + r) = some (.inl (Z.Y.1, 10, .inl (fun _ => 0))) := fun r hr => by
    rw [cx_Fa (n := n + 1) r ftG_31 (Nat.lt_succ_self n) (by omega) hr, ftG_a hn hr]
  have hnz : ¬ nI (n + 1) = 0 := fun z => by have := nI_inj (a := n + 1) (b := 0) (by omega) (by decide) z; omega
  refine Hw_new hw hP hD hA (ftN n p36 p31 px) (fun k i hki => ?_) (fun a b i ha hb => ?_) (fun k hk e9 he => ?_) (fun k hk hc => ?_) (Wf_ft hw.2.2 hn e)
  · rcases ftN_so hki with ⟨rfl, rfl⟩ | ⟨rfl, rfl⟩ | ⟨rfl, rfl⟩ | ⟨rfl, rfl⟩ | ⟨rfl, rfl⟩ | ⟨rfl, rfl⟩ | ⟨rfl, rfl⟩
    · refine ⟨_, (cxE1 ftG_31).trans (cEd_at (i := 0) (by omega) (by omega)), ?_⟩
      have hfe : va_up f n (some x) = fun j => if j < n + 1 then some (ftA Z.ad n q x a1 a2 a3 a4 (40 + 10 * j)) else none := by
        funext j
        unfold va_up
        by_cases hj : j = n
        · rw [if_pos hj, hj, if_pos (by omega), xx]
        · rw [if_neg hj, hf]
          by_cases hj2 : j < n
          · rw [if_pos hj2, if_pos (by omega), hO _ (by omega) (by omega)]
          · rw [if_neg hj2, if_neg (by omega)]
      rw [w36, x36, hfe]
    · refine ⟨_, cx_L1, ?_⟩
      rw [w31, hO 31 (by decide) (by omega)]
      unfold cLi
      rw [ftG_31, if_neg hnz, x36]
    · refine ⟨_, cx_F (n := n + 1) ftG_31 (Nat.lt_succ_self n) (by omega), ?_⟩
      rw [wx, xx, x1, x2, x3, x4, ftG_f hn, ftG_f hn]
      rfl
    · exact ⟨_, ca 4 (by decide), by rw [w3, x4]⟩
    · exact ⟨_, ca 3 (by decide), by rw [w4, x3]⟩
    · exact ⟨_, ca 2 (by decide), by rw [w5, x2]⟩
    · exact ⟨_, ca 1 (by decide), by rw [w6, x1]⟩
  · obtain ⟨d1, d2, d3, d4, d5, d6⟩ := hpd
    rcases ftN_so ha with ⟨h1, h2⟩ | ⟨h1, h2⟩ | ⟨h1, h2⟩ | ⟨h1, h2⟩ | ⟨h1, h2⟩ | ⟨h1, h2⟩ | ⟨h1, h2⟩ <;> rcases ftN_so hb with ⟨h3, h4⟩ | ⟨h3, h4⟩ | ⟨h3, h4⟩ | ⟨h3, h4⟩ | ⟨h3, h4⟩ | ⟨h3, h4⟩ | ⟨h3, h4⟩ <;> omega
  · obtain ⟨h1, h2, h3⟩ := ftN_no hk
    rw [ft_old hw.2.2 hn e hO h2 h1 h3] at he
    exact ⟨he, hO k h1 h3⟩
  · obtain ⟨h1, h2, h3⟩ := ftN_no hk
    obtain ⟨e9, he9⟩ := Option.ne_none_iff_exists'.mp hc
    have h4 := hA2 k h2 h1 hc
    exact ⟨hfr _ (hw.1 k e9 he9).1.lt h4, h4⟩
