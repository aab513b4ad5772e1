/-! THE CLASS: line -/
/-- the world with line m of poster p more, of word w -/
def lnG (g : MG) (p m w : Nat) : MG := fun k j => if k = 101 + 10 * p then (if j = 2 then nI (m + 1) else g k j) else if k = 200 + 10 * (4 * p + m) then (if j = 1 then nI (szw w) else if j = 3 then -1 else 0) else if k = 201 + 10 * (4 * p + m) then lrM w (szw w) 0 j else if k = 202 + 10 * (4 * p + m) then 0 else g k j
theorem lnG_o {g : MG} {p m w k : Nat} (h1 : k ≠ 101 + 10 * p) (h2 : ¬ (200 + 10 * (4 * p + m) ≤ k ∧ k < 203 + 10 * (4 * p + m))) : lnG g p m w k = g k := by
  funext j
  unfold lnG
  rw [if_neg h1, if_neg (by omega), if_neg (by omega), if_neg (by omega)]
theorem lnG_p {g : MG} {p m w : Nat} : lnG g p m w (101 + 10 * p) 2 = nI (m + 1) := by unfold lnG; rw [if_pos rfl, if_pos rfl]
theorem lnG_0 {g : MG} {p m w j : Nat} (hp : p < 6) : lnG g p m w (200 + 10 * (4 * p + m)) j = if j = 1 then nI (szw w) else if j = 3 then -1 else 0 := by
  unfold lnG
  rw [if_neg (by omega), if_pos rfl]
theorem lnG_1 {g : MG} {p m w : Nat} (hp : p < 6) : lnG g p m w (200 + 10 * (4 * p + m) + 1) = lrM w (szw w) 0 := by
  funext j
  unfold lnG
  rw [if_neg (by omega), if_neg (by omega), if_pos (by omega)]
theorem lnG_2 {g : MG} {p m w : Nat} (hp : p < 6) : lnG g p m w (200 + 10 * (4 * p + m) + 2) = fun _ => 0 := by
  funext j
  unfold lnG
  rw [if_neg (by omega), if_neg (by omega), if_neg (by omega), if_pos (by omega)]
theorem Wf_ln {g : MG} (h : Wf g) {p m w : Nat} (hp : p < 6) (hm : m < 4) : Wf (lnG g p m w) := by
  obtain ⟨⟨n, hn, e1, hf⟩, ⟨n2, hn2, e2⟩, h3⟩ := h
  refine ⟨⟨n, hn, by rw [lnG_o (by omega) (by omega)]; exact e1, fun j hj => ?_⟩, ⟨n2, hn2, by rw [lnG_o (by omega) (by omega)]; exact e2⟩, fun q hq => ?_⟩
  · by_cases hj4 : j = 4 * p + m
    · left
      rw [hj4, lnG_0 hp]
      rfl
    · rw [lnG_o (by omega) (by omega)]
      exact hf j hj
  · by_cases hqp : q = p
    · subst hqp
      exact ⟨m + 1, by omega, lnG_p⟩
    · rw [lnG_o (by omega) (by omega)]
      exact h3 q hq
theorem ln_old {Y : Yc} {ad ad' : Nat → Nat} {df : Nat} {g : MG} (hwf : Wf g) {p m w : Nat} (hp : p < 6) (hm : m < 4) (e : g (101 + 10 * p) 2 = nI m) (hO : ∀ k, k ≠ 102 + 10 * p → ¬ (200 + 10 * (4 * p + m) ≤ k ∧ k < 203 + 10 * (4 * p + m)) → ad' k = ad k) {k : Nat} (h1 : k ≠ 101 + 10 * p) (h2 : k ≠ 102 + 10 * p) (h3 : ¬ (200 + 10 * (4 * p + m) ≤ k ∧ k < 203 + 10 * (4 * p + m))) : cx Y ad' df (lnG g p m w) k = cx Y ad df g k := by
  have e31 : lnG g p m w 31 = g 31 := lnG_o (by omega) (by omega)
  have e32 : lnG g p m w 32 = g 32 := lnG_o (by omega) (by omega)
  have enl : ∀ q, q ≠ p → q < 6 → lnG g p m w (101 + 10 * q) 2 = g (101 + 10 * q) 2 := fun q hq hq6 => by rw [lnG_o (by omega) (by omega)]
  have ek : lnG g p m w k = g k := lnG_o h1 h3
  unfold cx
  rw [e31, e32, ek]
  have i1 : iz (nI (m + 1)) = m + 1 := iz_nI (by omega)
  have i0 : iz (nI m) = m := iz_nI (by omega)
  rcases k_reg k with c | c | c | c | c | c | c | c
  · exact cS_lo c (fun q hq => hO q (by omega) (by omega)) (fun _ _ => hO 36 (by omega) (by omega)) (fun _ _ => hO 37 (by omega) (by omega))
  · subst c
    obtain ⟨⟨n, hn, e1, -⟩, -⟩ := hwf
    rw [cS_36, cS_36, e1]
    cases n with
    | zero => rfl
    | succ n =>
      rw [cEd_at (i := 0) (by omega) (by omega), cEd_at (i := 0) (by omega) (by omega)]
      have : (fun j => if j < n + 1 then some (ad' (40 + 10 * j)) else none) = fun j => if j < n + 1 then some (ad (40 + 10 * j)) else none := by
        funext j
        by_cases hj : j < n + 1
        · rw [if_pos hj, if_pos hj, hO _ (by omega) (by omega)]
        · rw [if_neg hj, if_neg hj]
      rw [this]
  · subst c
    obtain ⟨-, ⟨n, hn, e1⟩, -⟩ := hwf
    rw [cS_37, cS_37, e1]
    cases n with
    | zero => rfl
    | succ n =>
      rw [cEd_at (i := 0) (by omega) (by omega), cEd_at (i := 0) (by omega) (by omega)]
      have : (fun j => if j < n + 1 then some (ad' (100 + 10 * j)) else none) = fun j => if j < n + 1 then some (ad (100 + 10 * j)) else none := by
        funext j
        by_cases hj : j < n + 1
        · rw [if_pos hj, if_pos hj, hO _ (by omega) (by omega)]
        · rw [if_neg hj, if_neg hj]
      rw [this]
  · rw [cS_f c, cS_f c, hO (k + 1) (by omega) (by omega), hO (k + 2) (by omega) (by omega), hO (k + 3) (by omega) (by omega), hO (k + 4) (by omega) (by omega)]
  · rw [cS_p c, cS_p c]
    by_cases hkp : (k - 100) / 10 = p
    · rw [hO (k + 1) (by omega) (by omega)]
      by_cases h0 : (k - 100) % 10 = 0
      · rw [if_pos h0, if_pos h0]
      · have h01 : ¬ (k - 100) % 10 = 1 := by omega
        have h02 : ¬ (k - 100) % 10 = 2 := by omega
        rw [if_neg h0, if_neg h0, if_neg h01, if_neg h01, if_neg h02, if_neg h02]
    · rw [hO (k + 1) (by omega) (by omega), cLi_ad (fun _ => hO (k + 1) (by omega) (by omega)), enl _ hkp (by omega)]
      obtain ⟨a, ha, e4⟩ := hwf.2.2 ((k - 100) / 10) (by omega)
      rw [e4]
      have : cEd Y (nI a) (fun j => ad' (200 + 10 * (4 * ((k - 100) / 10) + j))) = cEd Y (nI a) (fun j => ad (200 + 10 * (4 * ((k - 100) / 10) + j))) := by
        cases a with
        | zero => rfl
        | succ n =>
          rw [cEd_at (i := 0) (by omega) (by omega), cEd_at (i := 0) (by omega) (by omega)]
          have : (fun j => if j < n + 1 then some (ad' (200 + 10 * (4 * ((k - 100) / 10) + j))) else none) = fun j => if j < n + 1 then some (ad (200 + 10 * (4 * ((k - 100) / 10) + j))) else none := by
            funext j
            by_cases hj : j < n + 1
            · rw [if_pos hj, if_pos hj, hO _ (by omega) (by omega)]
            · rw [if_neg hj, if_neg hj]
          rw [this]
      rw [this]
  · rw [cS_l c, cS_l c]
    have hin : ∀ q, (if (k - 200) % 10 = 0 then some (Sum.inr (2, [Value.ref (ad' (k + 1)), .int (g k 1), .ref (ad' (k + 2)), va_rf (fR ad' (g k 3)), .int (g k 4), .int (g k 5)])) else q) = (if (k - 200) % 10 = 0 then (some (Sum.inr (2, [Value.ref (ad (k + 1)), .int (g k 1), .ref (ad (k + 2)), va_rf (fR ad (g k 3)), .int (g k 4), .int (g k 5)])) : Option va_E) else q) := by
      intro q
      by_cases h0 : (k - 200) % 10 = 0
      · have hf : fR ad' (g k 3) = fR ad (g k 3) := by
          obtain ⟨⟨n, hn, e1, hf⟩, -⟩ := hwf
          have hj : k = 200 + 10 * ((k - 200) / 10) := by omega
          rcases hf ((k - 200) / 10) (by omega) with h | ⟨i, hi, h⟩
          · rw [← hj] at h
            rw [h]
            rfl
          · rw [← hj] at h
            rw [h, fR_nI (by omega), fR_nI (by omega), hO _ (by omega) (by omega)]
        rw [if_pos h0, if_pos h0, hf, hO (k + 1) (by omega) (by omega), hO (k + 2) (by omega) (by omega)]
      · rw [if_neg h0, if_neg h0]
    rw [hin]
    by_cases hkp : (k - 200) / 40 = p
    · rw [hkp, lnG_p, e, i1, i0]
      by_cases hr : (k - 200) % 10 < 3
      · have : ((k - 200) / 10 % 4 < m + 1) = ((k - 200) / 10 % 4 < m) := by
          have h9 : (k - 200) / 10 % 4 ≠ m := by omega
          exact propext ⟨fun z => by omega, fun z => by omega⟩
        simp only [this]
      · rw [if_neg (show ¬ (k - 200) % 10 = 0 by omega), if_neg (show ¬ (k - 200) % 10 = 1 by omega), if_neg (show ¬ (k - 200) % 10 = 2 by omega)]
        split <;> split <;> rfl
    · rw [enl _ hkp (by omega)]
  · rw [cS_law c, cS_law c]
    exact cW_ad (fun q hq => hO q (by omega) (by omega)) _
  · rw [cS_no c, cS_no c]
def lnA (ad : Nat → Nat) (p m q x a1 a2 : Nat) : Nat → Nat := fun k => if k = 102 + 10 * p then q else if k = 200 + 10 * (4 * p + m) then x else if k = 201 + 10 * (4 * p + m) then a1 else if k = 202 + 10 * (4 * p + m) then a2 else ad k
theorem lnA_o {ad : Nat → Nat} {p m q x a1 a2 k : Nat} (h1 : k ≠ 102 + 10 * p) (h2 : ¬ (200 + 10 * (4 * p + m) ≤ k ∧ k < 203 + 10 * (4 * p + m))) : lnA ad p m q x a1 a2 k = ad k := by
  unfold lnA
  rw [if_neg h1, if_neg (by omega), if_neg (by omega), if_neg (by omega)]
theorem lnA_x {ad : Nat → Nat} {p m q x a1 a2 : Nat} (hp : p < 6) : lnA ad p m q x a1 a2 (102 + 10 * p) = q ∧ lnA ad p m q x a1 a2 (200 + 10 * (4 * p + m)) = x ∧ lnA ad p m q x a1 a2 (200 + 10 * (4 * p + m) + 1) = a1 ∧ lnA ad p m q x a1 a2 (200 + 10 * (4 * p + m) + 2) = a2 := by
  refine ⟨?_, ?_, ?_, ?_⟩
  · unfold lnA; rw [if_pos rfl]
  · unfold lnA; rw [if_neg (by omega), if_pos rfl]
  · unfold lnA; rw [if_neg (by omega), if_neg (by omega), if_pos (by omega)]
  · unfold lnA; rw [if_neg (by omega), if_neg (by omega), if_neg (by omega), if_pos (by omega)]
def lnN (p m pe pl px : Nat) : Nat → Option Nat := fun k => if k = 102 + 10 * p then some pe else if k = 101 + 10 * p then some pl else if k = 200 + 10 * (4 * p + m) then some px else if k = 202 + 10 * (4 * p + m) then some 3 else if k = 201 + 10 * (4 * p + m) then some 4 else none
theorem lnN_no {p m pe pl px k : Nat} (h : lnN p m pe pl px k = none) : k ≠ 102 + 10 * p ∧ k ≠ 101 + 10 * p ∧ ¬ (200 + 10 * (4 * p + m) ≤ k ∧ k < 203 + 10 * (4 * p + m)) := by
  unfold lnN at h
  split at h
  · cases h
  · split at h
    · cases h
    · split at h
      · cases h
      · split at h
        · cases h
        · split at h
          · cases h
          · exact ⟨by assumption, by assumption, by omega⟩
theorem lnN_so {p m pe pl px k i : Nat} (h : lnN p m pe pl px k = some i) : (k = 102 + 10 * p ∧ i = pe) ∨ (k = 101 + 10 * p ∧ i = pl) ∨ (k = 200 + 10 * (4 * p + m) ∧ i = px) ∨ (k = 200 + 10 * (4 * p + m) + 2 ∧ i = 3) ∨ (k = 200 + 10 * (4 * p + m) + 1 ∧ i = 4) := by
  unfold lnN at h
  split at h
  · cases h; exact Or.inl ⟨by assumption, rfl⟩
  · split at h
    · cases h; exact Or.inr (Or.inl ⟨by assumption, rfl⟩)
    · split at h
      · cases h; exact Or.inr (Or.inr (Or.inl ⟨by assumption, rfl⟩))
      · split at h
        · cases h; exact Or.inr (Or.inr (Or.inr (Or.inl ⟨by omega, rfl⟩)))
        · split at h
          · cases h; exact Or.inr (Or.inr (Or.inr (Or.inr ⟨by omega, rfl⟩)))
          · cases h
theorem Hw_ln {Z : Zc} {g : MG} {H H1 : Heap} (hw : HwZ Z g H) {p m c : Nat} (hP6 : PsP g p) (hm : m < 4) (e : g (101 + 10 * p) 2 = nI m) {A : Nat → Prop} {w : va_W} {q x a1 a2 pe pl px : Nat} (hpd : pe ≠ pl ∧ pe ≠ px ∧ pl ≠ px ∧ pe < 3 ∧ pl < 3 ∧ px < 3) (hP : va_P Z.D vwCl w H1) (hD : va_D A w) (hA : ∀ a, A a → Z.z ≤ a) (hA2 : ∀ k, k ≠ 101 + 10 * p → k ≠ 102 + 10 * p → cx Z.Y Z.ad Z.df g k ≠ none → ¬ A (Z.ad k)) (hfr : ∀ a : Nat, a < H.size → ¬ A a → H1[a]? = H[a]?)
    {f : Nat → Option Nat} (hf : ∀ j, f j = if j < m then some (Z.ad (200 + 10 * (4 * p + j))) else none) (we : w[pe]? = some (q, .inl (Z.Y.2.1, 10, .inr (.inr (.inr (.inr (va_up f m (some x)))))))) (wl : w[pl]? = some (Z.ad (101 + 10 * p), .inr (0, [.int (nI (m + 1)), .ref q, .int (nI (m + 1))]))) (wx : w[px]? = some (x, .inr (2, [.ref a1, .int (nI (szw c)), .ref a2, .null, .int 0, .int 0]))) (w3 : w[3]? = some (a2, .inl (Z.Y.1, 10, .inl (fun _ => 0)))) (w4 : w[4]? = some (a1, .inl (Z.Y.1, 8, .inl (lrM c (szw c) 0)))) : HwZ (Z.wa (lnA Z.ad p m q x a1 a2)) (lnG g p m c) H1 := by
  have hp := hP6.lt
  obtain ⟨xe, xx, x1, x2⟩ := @lnA_x Z.ad p m q x a1 a2 hp
  have hO : ∀ k, k ≠ 102 + 10 * p → ¬ (200 + 10 * (4 * p + m) ≤ k ∧ k < 203 + 10 * (4 * p + m)) → lnA Z.ad p m q x a1 a2 k = Z.ad k := fun k h1 h2 => lnA_o h1 h2
  have hnz : ¬ nI (m + 1) = 0 := fun z => by have := nI_inj (a := m + 1) (b := 0) (by omega) (by decide) z; omega
  have hP7 : PsP (lnG g p m c) p := hP6.e (lnG_o (by omega) (by omega))
  have hm7 : lnG g p m c (100 + 10 * p + 1) 2 = nI (m + 1) := by rw [show 100 + 10 * p + 1 = 101 + 10 * p by omega]; exact lnG_p
  have hL7 : LnP (lnG g p m c) p m := LnP.mk hP7 hm7 (Nat.lt_succ_self m) (by omega)
  refine Hw_new hw hP hD hA (lnN p m pe pl px) (fun k i hki => ?_) (fun a b i ha hb => ?_) (fun k hk e9 he => ?_) (fun k hk hc => ?_) (Wf_ln hw.2.2 hp hm)
  · rcases lnN_so hki with ⟨rfl, rfl⟩ | ⟨rfl, rfl⟩ | ⟨rfl, rfl⟩ | ⟨rfl, rfl⟩ | ⟨rfl, rfl⟩
    · refine ⟨_, (show cx Z.Y (lnA Z.ad p m q x a1 a2) Z.df (lnG g p m c) (102 + 10 * p) = _ by rw [show 102 + 10 * p = 100 + 10 * p + 1 + 1 by omega]; exact (cxPE' hP7 hm7).trans (cEd_at (i := 0) (by omega) (by omega))), ?_⟩
      have hfe : va_up f m (some x) = fun j => if j < m + 1 then some (lnA Z.ad p m q x a1 a2 (200 + 10 * (4 * p + j))) else none := by
        funext j
        unfold va_up
        by_cases hj : j = m
        · rw [if_pos hj, hj, if_pos (by omega), xx]
        · rw [if_neg hj, hf]
          by_cases hj2 : j < m
          · rw [if_pos hj2, if_pos (by omega), hO _ (by omega) (by omega)]
          · rw [if_neg hj2, if_neg (by omega)]
      rw [we, xe, hfe]
    · refine ⟨_, (show cx Z.Y (lnA Z.ad p m q x a1 a2) Z.df (lnG g p m c) (101 + 10 * p) = _ by rw [show 101 + 10 * p = 100 + 10 * p + 1 by omega]; exact cxPL hP7), ?_⟩
      rw [wl, hO (101 + 10 * p) (by omega) (by omega)]
      unfold cLi
      rw [hm7, if_neg hnz, show 100 + 10 * p + 1 + 1 = 102 + 10 * p by omega, xe]
    · refine ⟨_, cxLn hL7, ?_⟩
      rw [wx, xx, x1, x2, lnG_0 hp, lnG_0 hp, lnG_0 hp, lnG_0 hp]
      rfl
    · refine ⟨_, cxLt hL7, ?_⟩
      rw [w3, x2, lnG_2 hp]
    · refine ⟨_, cxLl hL7, ?_⟩
      rw [w4, x1, lnG_1 hp]
  · obtain ⟨d1, d2, d3, d4, d5, d6⟩ := hpd
    rcases lnN_so ha with ⟨h1, h2⟩ | ⟨h1, h2⟩ | ⟨h1, h2⟩ | ⟨h1, h2⟩ | ⟨h1, h2⟩ <;> rcases lnN_so hb with ⟨h3, h4⟩ | ⟨h3, h4⟩ | ⟨h3, h4⟩ | ⟨h3, h4⟩ | ⟨h3, h4⟩ <;> omega
  · obtain ⟨h1, h2, h3⟩ := lnN_no hk
    rw [ln_old hw.2.2 hp hm e hO h2 h1 h3] at he
    exact ⟨he, hO k h1 h3⟩
  · obtain ⟨h1, h2, h3⟩ := lnN_no hk
    obtain ⟨e9, he9⟩ := Option.ne_none_iff_exists'.mp hc
    have h4 := hA2 k h2 h1 hc
    exact ⟨hfr _ (hw.1 k e9 he9).1.lt h4, h4⟩
theorem FrK_ln {g : MG} {p m w : Nat} (hp : p < 6) (hm : m < 4) : FrK g (lnG g p m w) := ⟨fun k hk => lnG_o (by omega) (by omega), lnG_o (by omega) (by omega)⟩
theorem adE_ln {Z : Zc} {p m q x a1 a2 : Nat} (hp : p < 6) (hm : m < 4) : adE Z (lnA Z.ad p m q x a1 a2) := ⟨fun k hk => lnA_o (by omega) (by omega), fun k hk => lnA_o (by omega) (by omega)⟩
theorem Rl_ln {s g : MG} (hI : IvM s) (hR : Rl s g) {p : Nat} (hp : p < npO s) (h15 : ¬ s 15 p = 1) (hm : nlO s p < 4) {w : Nat} (hw : w ≤ 99999999) : Rl (wr (wr s 17 (4 * p + nlO s p) (nI w)) 14 p (nI (nlO s p + 1))) (lnG g p (nlO s p) w) := by
  have hp6 := (IvM_np hI).1
  obtain ⟨⟨a1, a2, a3, a4, a5, a6, a7⟩, hF, hP⟩ := hR
  have es : ∀ z, z ≠ 17 → z ≠ 14 → wr (wr s 17 (4 * p + nlO s p) (nI w)) 14 p (nI (nlO s p + 1)) z = s z := fun z z1 z2 => by rw [wr_row _ _ _ _ z2, wr_row _ _ _ _ z1]
  have e17 : wr (wr s 17 (4 * p + nlO s p) (nI w)) 14 p (nI (nlO s p + 1)) 17 = wr s 17 (4 * p + nlO s p) (nI w) 17 := wr_row _ _ _ _ (by decide)
  refine ⟨⟨?_, ?_, ?_, ?_, ?_, ?_, ?_⟩, hF.c (by rw [es 0 (by decide) (by decide)]) (fun k k1 k2 => es k (by omega) (by omega)) (fun k k1 k2 _ => lnG_o (by omega) (by omega)) (IvM_nf hI).1, fun a ha => ?_⟩
  · rw [lnG_o (by omega) (by omega), es 0 (by decide) (by decide)]; exact a1
  · rw [lnG_o (by omega) (by omega), es 0 (by decide) (by decide)]; exact a2
  · rw [lnG_o (by omega) (by omega), es 0 (by decide) (by decide)]; exact a3
  · rw [lnG_o (by omega) (by omega), es 0 (by decide) (by decide)]; exact a4
  · rw [lnG_o (by omega) (by omega), es 9 (by decide) (by decide)]; exact a5
  · rw [lnG_o (by omega) (by omega), es 10 (by decide) (by decide)]; exact a6
  · rw [lnG_o (by omega) (by omega), es 11 (by decide) (by decide)]; exact a7
  · have ha' : a < npO s := by unfold npO at ha ⊢; rw [es 0 (by decide) (by decide)] at ha; exact ha
    obtain ⟨b1, b2, b3, b4, b5, b6⟩ := hP a ha'
    have h4 := (IvM_nl hI (show a < 6 by omega)).2
    rw [es 12 (by decide) (by decide), es 13 (by decide) (by decide), es 15 (by decide) (by decide), es 16 (by decide) (by decide), lnG_o (by omega) (by omega)]
    refine ⟨b1, b2, b3, b4, ?_, fun q hq => ?_⟩
    · by_cases hap : a = p
      · subst hap
        rw [show 100 + 10 * a + 1 = 101 + 10 * a by omega, lnG_p, wr_same]
      · rw [lnG_o (by omega) (by omega), wr_ne _ _ _ _ (Or.inr hap), wr_row _ _ _ _ (by decide)]
        exact b5
    · have hwo : ∀ j, j ≠ 4 * p + nlO s p → wdO (wr (wr s 17 (4 * p + nlO s p) (nI w)) 14 p (nI (nlO s p + 1))) j = wdO s j := fun j hj => by unfold wdO; rw [e17, wr_ne _ _ _ _ (Or.inr hj)]
      have old : q < nlO s a → RlL (wr (wr s 17 (4 * p + nlO s p) (nI w)) 14 p (nI (nlO s p + 1))) (lnG g p (nlO s p) w) a q := fun hq' =>
        (b6 q hq').c (by rw [es 15 (by decide) (by decide)]) (by rw [e17, wr_ne _ _ _ _ (Or.inr (by by_cases hap : a = p; (· subst hap; omega); (· omega)))]) (fun _ => ⟨by rw [es 18 (by decide) (by decide)], by rw [es 19 (by decide) (by decide)], by rw [es 20 (by decide) (by decide)]⟩) (by rw [lnG_o (by omega) (by by_cases hap : a = p; (· subst hap; omega); (· omega))]) (lnG_o (by omega) (by by_cases hap : a = p; (· subst hap; omega); (· omega))) (fun _ => ⟨lnG_o (by omega) (by by_cases hap : a = p; (· subst hap; omega); (· omega)), lnG_o (by omega) (by by_cases hap : a = p; (· subst hap; omega); (· omega))⟩)
      by_cases hap : a = p
      · subst hap
        have hq9 : q < nlO s a + 1 := by
          have : nlO (wr (wr s 17 (4 * a + nlO s a) (nI w)) 14 a (nI (nlO s a + 1))) a = nlO s a + 1 := by
            show iz (wr (wr s 17 (4 * a + nlO s a) (nI w)) 14 a (nI (nlO s a + 1)) 14 a) = nlO s a + 1
            rw [wr_same]; exact iz_nI (by omega)
          omega
        by_cases hqm : q = nlO s a
        · subst hqm
          have hw9 : wdO (wr (wr s 17 (4 * a + nlO s a) (nI w)) 14 a (nI (nlO s a + 1))) (4 * a + nlO s a) = w := by unfold wdO; rw [e17, wr_same]; exact iz_nI (by omega)
          refine ⟨?_, fun z => absurd (by rw [es 15 (by decide) (by decide)] at z; exact z) h15⟩
          unfold LwP
          rw [hw9, lnG_0 (by omega), lnG_1 (by omega)]
          refine ⟨rfl, szw_8 hw, fun c hc => ?_⟩
          unfold lrM
          rw [if_pos ⟨Nat.zero_le _, hc⟩]
        · exact old (by omega)
      · have hq9 : q < nlO s a := by
          have : nlO (wr (wr s 17 (4 * p + nlO s p) (nI w)) 14 p (nI (nlO s p + 1))) a = nlO s a := by
            show iz (wr (wr s 17 (4 * p + nlO s p) (nI w)) 14 p (nI (nlO s p + 1)) 14 a) = iz (s 14 a)
            rw [wr_ne _ _ _ _ (Or.inr hap), wr_row _ _ _ _ (by decide)]
          omega
        exact old hq9
theorem iz_le {v : Int32} {n : Nat} (h0 : 0 ≤ v.toInt) (h : v.toInt ≤ n) : iz v ≤ n := by
  unfold iz
  rw [Int32.toNatClampNeg]
  omega
set_option maxRecDepth 100000 in
theorem x_line (l : Launch) (hl9 : l.stackTraces = false) (Z : Zc) (p v : Int32) (s g : MG) (hI : IvM s) (hR : Rl s g) : XM l yX3_line cX3_line 5 (some .int) (rmz 8 240 6 60) Z [.ref (Z.ad 30), .int p, .int v] g (PXM Z g (cdLine s p v) (nI (nlO s (iz p))) (stLine s p v)) (PXx g (cdLine s p v) (nm3 0 1 2) (stLine s p v)) := by
  refine ent_xm (lo := [some (.ref (Z.ad 30)), some (.int p), some (.int v), none, none]) hl9 (by decide) rfl (by simp [lg_sl, Value.category]) rfl (by decide) (fun P hl C hM ret thr => ?_)
  have hnf := (IvM_nf hI).2
  have hf5 := (IvM_nf hI).1
  have hnp := (IvM_np hI).2
  have hp6 := (IvM_np hI).1
  have hn1 : g 31 2 = nI (nfO s) := hR.1.1.trans hnf
  have hn2 : g 32 2 = nI (npO s) := hR.1.2.1.trans hnp
  refine v_aload_n C dX3_line_0 rfl rfl ?_
  refine v_iload_n C dX3_line_1 rfl rfl ?_
  refine v_callVi (n := 1) (as := [.int p]) C (c_cisPoster _ Z (npO s) p g hn2 hp6) (gv (tg1 93 rfl rfl) (tg1 95 rfl rfl) (tg0 0 rfl rfl) (tg1 1 rfl rfl) (tg1 96 rfl rfl)) (by decide +kernel) ⟨Nat.le_of_ble_eq_true rfl, Nat.le_of_ble_eq_true rfl⟩ rfl cx_T rfl rfl (Nat.le_of_ble_eq_true rfl) dX3_line_2 ⟨Nat.le_of_ble_eq_true rfl, Nat.le_of_ble_eq_true rfl⟩ (fun r2 g2 hp2 => ?_)
  obtain ⟨rfl, hg2⟩ := hp2
  rw [hg2]
  refine v_if_ne (tgt := 18) C dX3_line_5 (by decide) (fun h5 => ?_) (fun h5 => ?_)
  · have k5 := bI_1.mp h5
    obtain ⟨i, hi, ei⟩ : ∃ i, i < npO s ∧ p = nI i := ⟨iz p, (isN_nI k5).2, (isN_nI k5).1⟩
    subst ei
    have hP := PsP.mk hn2 hi hp6
    obtain ⟨r12, r13, r15, r16, r14, rL⟩ := hR.2.2 i hi
    have hm : g (100 + 10 * i + 1) 2 = nI (nlO s i) := r14.trans (IvM_nl hI (by omega)).1
    have hm4 := (IvM_nl hI (show i < 6 by omega)).2
    refine v_iload_n C dX3_line_18 rfl rfl ?_
    refine v_if_lt (tgt := 28) C dX3_line_19 (by decide) (fun h19 => ?_) (fun h19 => ?_)
    · exact thr _ _ _ _ _ 1 _ _ (List.mem_of_getElem? (i := 13) rfl) ⟨Nat.le_of_ble_eq_true rfl, Nat.le_of_ble_eq_true rfl⟩ dX3_line_28 dX3_line_31 dX3_line_32 dX3_line_34 dX3_line_37 (PXx.no (k := 2) (by unfold cdLine; rw [if_neg (by simp [k5]), if_pos (inB_f.mpr (by have z1 : (0 : Int32).toInt = 0 := rfl; have z9 : (99999999 : Int32).toInt = 99999999 := rfl; simp only [i_lt, i_le] at h19; omega))]) (by decide) rfl (by unfold stLine; rw [if_neg (by rw [show cdLine s (nI i) v = 2 by unfold cdLine; rw [if_neg (by simp [k5]), if_pos (inB_f.mpr (by have z1 : (0 : Int32).toInt = 0 := rfl; have z9 : (99999999 : Int32).toInt = 99999999 := rfl; simp only [i_lt, i_le] at h19; omega))]]; decide)]) hR FrK.rf)
    · refine v_iload_n C dX3_line_22 rfl rfl ?_
      refine v_ldc (v := 99999999) C (tg4 178 rfl rfl) dX3_line_23 ?_
      refine v_icmp_le (tgt := 38) C dX3_line_25 (by decide) (fun h25 => ?_) (fun h25 => ?_)
      · have b1 : inB v 0 99999999 = true := inB_t.mpr (by have z1 : (0 : Int32).toInt = 0 := rfl; have z9 : (99999999 : Int32).toInt = 99999999 := rfl; simp only [i_lt, i_le] at h19 h25; omega)
        obtain ⟨w, hw, ew⟩ : ∃ w, w ≤ 99999999 ∧ v = nI w := ⟨iz v, iz_le (inB_t.mp b1).1 (inB_t.mp b1).2, (nI_iz (inB_t.mp b1).1).symm⟩
        subst ew
        refine v_aload_n C dX3_line_38 rfl rfl ?_
        refine v_get C inG3 rfl 1 (by decide) (tg1 67 rfl rfl) rfl cx_T rfl dX3_line_39 ?_
        refine v_iload_n C dX3_line_42 rfl rfl ?_
        refine v_callVq (n := 1) (as := [.int (nI i)]) C (c_lget _ Z 32 37 (npO s) i g cx_L2 hn2 hi (by omega) (fun j => Z.ad (100 + 10 * j)) (cxE2 hn2)) (gv (tg1 169 rfl rfl) (tg1 170 rfl rfl) (tg1 171 rfl rfl) (tg1 4 rfl rfl) (tg1 172 rfl rfl)) (by decide +kernel) ⟨Nat.le_of_ble_eq_true rfl, Nat.le_of_ble_eq_true rfl⟩ rfl cx_L2 rfl rfl (Nat.le_of_ble_eq_true rfl) dX3_line_43 ⟨Nat.le_of_ble_eq_true rfl, Nat.le_of_ble_eq_true rfl⟩ (fun r43 g43 hp43 => ?_)
        obtain ⟨rfl, hg43⟩ := hp43
        rw [hg43]
        refine v_st (st' := [.ref (Z.ad (100 + 10 * i))]) rfl ?_
        refine v_cast C rfl (tg1 183 rfl rfl) (cxP hP) dX3_line_46 ?_
        refine v_astore_n (lo' := [some (.ref (Z.ad 30)), some (.int (nI i)), some (.int (nI w)), some (.ref (Z.ad (100 + 10 * i))), none]) C dX3_line_49 rfl (Nat.le_of_ble_eq_true rfl) rfl rfl ?_
        refine v_aload_n C dX3_line_50 rfl rfl ?_
        refine v_get C inG2 rfl 3 (by decide) (tg3 96 rfl rfl) rfl (cxP hP) rfl dX3_line_51 ?_
        refine v_if_ne (tgt := 68) C dX3_line_54 (by decide) (fun h54 => ?_) (fun h54 => ?_)
        · exact thr _ _ _ _ _ 2 _ _ (List.mem_of_getElem? (i := 14) rfl) ⟨Nat.le_of_ble_eq_true rfl, Nat.le_of_ble_eq_true rfl⟩ dX3_line_68 dX3_line_71 dX3_line_72 dX3_line_74 dX3_line_77 (PXx.no (k := 3) (by unfold cdLine; rw [if_neg (by simp [k5]), if_neg (by rw [b1]; decide), if_pos (by rw [iz_nI (by omega)]; exact Or.inl ((IvM_01 hI (by omega)).resolve_left (fun z => h54 (r15.trans z))))]) (by decide) rfl (by unfold stLine; rw [if_neg (by rw [show cdLine s (nI i) (nI w) = 3 by unfold cdLine; rw [if_neg (by simp [k5]), if_neg (by rw [b1]; decide), if_pos (by rw [iz_nI (by omega)]; exact Or.inl ((IvM_01 hI (by omega)).resolve_left (fun z => h54 (r15.trans z))))]]; decide)]) hR FrK.rf)
        · have h15 : ¬ s 15 i = 1 := fun z => absurd ((r15.symm.trans h54).symm.trans z) (by decide)
          refine v_aload_n C dX3_line_57 rfl rfl ?_
          refine v_get C inG2 rfl 2 (by decide) (tg3 94 rfl rfl) rfl (cxP hP) rfl dX3_line_58 ?_
          refine v_callVi (n := 0) (as := []) C (c_lsize _ Z (100 + 10 * i + 1) (100 + 10 * i + 1 + 1) g (cxPL hP)) (gv (tg1 97 rfl rfl) (tg1 98 rfl rfl) (tg1 99 rfl rfl) (tg1 4 rfl rfl) (tg1 100 rfl rfl)) (by decide +kernel) ⟨Nat.le_of_ble_eq_true rfl, Nat.le_of_ble_eq_true rfl⟩ rfl (cxPL hP) rfl rfl (Nat.le_of_ble_eq_true rfl) dX3_line_61 ⟨Nat.le_of_ble_eq_true rfl, Nat.le_of_ble_eq_true rfl⟩ (fun r61 g61 hp61 => ?_)
          obtain ⟨rfl, hg61⟩ := hp61
          rw [hg61]
          refine v_topi (y := nI (nlO s i)) hm ?_
          refine v_iconst (v := 4) C dX3_line_64 (by decide) ?_
          refine v_icmp_lt (tgt := 78) C dX3_line_65 (by decide) (fun h65 => ?_) (fun h65 => ?_)
          · have hn9 : nlO s i < 4 := Nat.lt_of_not_le fun z => absurd h65 (by rw [i_lt, nI_toInt (by omega), show (4 : Int32).toInt = 4 from rfl]; omega)
            have hcd : cdLine s (nI i) (nI w) = 0 := by unfold cdLine; rw [if_neg (by simp [k5]), if_neg (by rw [b1]; decide), if_neg (by rw [iz_nI (by omega)]; rintro (z | z); (· exact h15 z); (· omega))]
            refine v_aload_n C dX3_line_78 rfl rfl ?_
            refine v_get C inG2 rfl 2 (by decide) (tg3 94 rfl rfl) rfl (cxP hP) rfl dX3_line_79 ?_
            refine v_callVi (n := 0) (as := []) C (c_lsize _ Z (100 + 10 * i + 1) (100 + 10 * i + 1 + 1) g (cxPL hP)) (gv (tg1 97 rfl rfl) (tg1 98 rfl rfl) (tg1 99 rfl rfl) (tg1 4 rfl rfl) (tg1 100 rfl rfl)) (by decide +kernel) ⟨Nat.le_of_ble_eq_true rfl, Nat.le_of_ble_eq_true rfl⟩ rfl (cxPL hP) rfl rfl (Nat.le_of_ble_eq_true rfl) dX3_line_82 ⟨Nat.le_of_ble_eq_true rfl, Nat.le_of_ble_eq_true rfl⟩ (fun r82 g82 hp82 => ?_)
            obtain ⟨rfl, hg82⟩ := hp82
            rw [hg82]
            refine v_topi (y := nI (nlO s i)) hm ?_
            refine v_istore (lo' := [some (.ref (Z.ad 30)), some (.int (nI i)), some (.int (nI w)), some (.ref (Z.ad (100 + 10 * i))), some (.int (nI (nlO s i)))]) C dX3_line_85 (Nat.le_of_ble_eq_true rfl) rfl rfl ?_
            refine v_aload_n C dX3_line_87 rfl rfl ?_
            refine v_get C inG2 rfl 2 (by decide) (tg3 94 rfl rfl) rfl (cxP hP) rfl dX3_line_88 ?_
            refine v_st (st' := [.ref (Z.ad (101 + 10 * i))]) (by rw [show 101 + 10 * i = 100 + 10 * i + 1 by omega]) ?_
            generalize hng : nlO s i = n at hn9 hm ⊢
            refine u_new (ci := 2) (fs := [.null, .int 0, .null, .null, .int 0, .int 0]) C inG1 tyX1 tyX1_ok (tg1 212 rfl rfl) (tg4 181 rfl rfl) (tg1 28 rfl rfl) rfl (by decide) (Nat.le_of_ble_eq_true rfl) (Nat.le_of_ble_eq_true rfl) dX3_line_91 (fun x => ?_)
            refine u_dup C dX3_line_94 rfl ?_
            refine u_iload_n C dX3_line_95 rfl rfl ?_
            refine u_callI (n := 1) (as := [.int (nI w)]) C (k_ninit _ Z (AX Z g) x w hw []) (tg4 182 rfl rfl) (tg4 183 rfl rfl) (tg1 28 rfl rfl) (tg4 184 rfl rfl) rfl (by decide +kernel) ⟨Nat.le_of_ble_eq_true rfl, Nat.le_of_ble_eq_true rfl⟩ rfl rfl (Nat.le_of_ble_eq_true rfl) dX3_line_96 ⟨Nat.le_of_ble_eq_true rfl, Nat.le_of_ble_eq_true rfl⟩ (fun xs hxs => ?_)
            obtain ⟨a1, a2, rfl⟩ := hxs
            have hm1 : g (101 + 10 * i) 2 = nI n := by rw [show 101 + 10 * i = 100 + 10 * i + 1 by omega]; exact hm
            cases n with
            | zero =>
              have hL : cx Z.Y Z.ad Z.df g (101 + 10 * i) = some (.inr (0, [.int 0, .ref Z.df, .int 0])) := by rw [show 101 + 10 * i = 100 + 10 * i + 1 by omega, cxPL hP]; unfold cLi; rw [hm]; rfl
              refine u_add (g' := lnG g i 0 w) (Φ := adE Z) C hM (tg3 109 rfl rfl) (k_add_0 _ Z (fun q => q = Z.ad (101 + 10 * i) ∨ AX Z g q) (Z.ad (101 + 10 * i)) x (ci := 2) (N := 6) (Cn := RX1) (T := TX1) rfl (List.mem_of_getElem? (i := 2) rfl) [(a2, .inl (Z.Y.1, 10, .inl (fun _ => 0))), (a1, .inl (Z.Y.1, 8, .inl (lrM w (szw w) 0)))]) hL (fun q hq => Or.inr hq) (fun H hw q hq => by rcases hq with rfl | hq; (· exact (hw.1 (101 + 10 * i) _ hL).2); (· exact hq.1)) (fun H hw hX => by have h9 := in1 hw hX hL; exact ⟨h9.1.sub [0, 3, 1, 2] rfl, h9.2.sub [0, 3, 1, 2] rfl rfl⟩) ⟨Nat.le_of_ble_eq_true rfl, Nat.le_of_ble_eq_true rfl⟩ (Nat.le_of_ble_eq_true rfl) dX3_line_99 ⟨Nat.le_of_ble_eq_true rfl, Nat.le_of_ble_eq_true rfl⟩ (fun r9 w9 H H1 hp hw hP9 hD9 hA9 hfr => ?_) (fun r9 ad9 hE9 => ?_)
              · obtain ⟨q, rfl⟩ := hp
                exact ⟨_, adE_ln (by omega) hn9, Hw_ln (pe := 0) (pl := 1) (px := 2) hw hP hn9 hm1 (q := q) (by decide) hP9 hD9 hA9 (fun k h1 h2 hc hA => by rcases hA with h3 | h3; (· exact h1 (hw.2.1 k (101 + 10 * i) hc (by rw [hL]; simp) h3)); (· exact h3.2 k hc rfl)) hfr (f := fun _ => none) (fun j => by rw [if_neg (Nat.not_lt_zero j)]) rfl rfl rfl rfl rfl⟩
              · refine v_pop (C.wa ad9) dX3_line_102 rfl ?_
                refine v_iload (C.wa ad9) dX3_line_103 rfl ?_
                refine v_wide (k := 6) (n := 60) (Nat.le_of_ble_eq_true rfl) (Nat.le_of_ble_eq_true rfl) ?_
                exact ret _ _ _ _ _ dX3_line_105 ⟨hcd, by rw [iz_nI (by omega), hng], by have h9 := Rl_ln hI hR hi h15 (by omega) hw; unfold stLine; rw [if_pos hcd, iz_nI (by omega)]; rw [hng] at h9 ⊢; exact h9, FrK_ln (by omega) hn9, hE9⟩
            | succ m =>
              have hL : cx Z.Y Z.ad Z.df g (101 + 10 * i) = some (.inr (0, [.int (nI (m + 1)), .ref (Z.ad (102 + 10 * i)), .int (nI (m + 1))])) := by rw [show 101 + 10 * i = 100 + 10 * i + 1 by omega, cxPL hP]; unfold cLi; rw [hm, if_neg (fun z => by have := nI_inj (a := m + 1) (b := 0) (by omega) (by decide) z; omega), show 102 + 10 * i = 100 + 10 * i + 1 + 1 by omega]
              have hE : cx Z.Y Z.ad Z.df g (102 + 10 * i) = some (.inl (Z.Y.2.1, 10, .inr (.inr (.inr (.inr (fun j => if j < m + 1 then some (Z.ad (200 + 10 * (4 * i + j))) else none)))))) := by rw [show 102 + 10 * i = 100 + 10 * i + 1 + 1 by omega]; exact (cxPE' hP hm).trans (cEd_at (i := 0) (by omega) (by omega))
              refine u_add (g' := lnG g i (m + 1) w) (Φ := adE Z) C hM (tg3 109 rfl rfl) (k_add_k _ Z (fun q => q = Z.ad (101 + 10 * i) ∨ q = Z.ad (102 + 10 * i) ∨ AX Z g q) (Z.ad (101 + 10 * i)) x (Z.ad (102 + 10 * i)) (m + 1) (by omega) _ (ci := 2) (N := 6) (Cn := RX1) (T := TX1) rfl (List.mem_of_getElem? (i := 2) rfl) [(a2, .inl (Z.Y.1, 10, .inl (fun _ => 0))), (a1, .inl (Z.Y.1, 8, .inl (lrM w (szw w) 0)))]) hL (fun q hq => Or.inr (Or.inr hq)) (fun H hw q hq => by rcases hq with rfl | rfl | hq; (· exact (hw.1 (101 + 10 * i) _ hL).2); (· exact (hw.1 (102 + 10 * i) _ hE).2); (· exact hq.1)) (fun H hw hX => by have h9 := in2 hw hX hL hE (by omega); exact ⟨h9.1.sub [0, 4, 1, 2, 3] rfl, h9.2.sub [0, 4, 1, 2, 3] rfl rfl⟩) ⟨Nat.le_of_ble_eq_true rfl, Nat.le_of_ble_eq_true rfl⟩ (Nat.le_of_ble_eq_true rfl) dX3_line_99 ⟨Nat.le_of_ble_eq_true rfl, Nat.le_of_ble_eq_true rfl⟩ (fun r9 w9 H H1 hp hw hP9 hD9 hA9 hfr => ?_) (fun r9 ad9 hE9 => ?_)
              · subst hp
                exact ⟨_, adE_ln (by omega) hn9, Hw_ln (pe := 2) (pl := 0) (px := 1) hw hP hn9 hm1 (q := (Z.ad (102 + 10 * i))) (by decide) hP9 hD9 hA9 (fun k h1 h2 hc hA => by rcases hA with h3 | h3 | h3; (· exact h1 (hw.2.1 k (101 + 10 * i) hc (by rw [hL]; simp) h3)); (· exact h2 (hw.2.1 k (102 + 10 * i) hc (by rw [hE]; simp) h3)); (· exact h3.2 k hc rfl)) hfr (fun j => rfl) rfl rfl rfl rfl rfl⟩
              · refine v_pop (C.wa ad9) dX3_line_102 rfl ?_
                refine v_iload (C.wa ad9) dX3_line_103 rfl ?_
                refine v_wide (k := 6) (n := 60) (Nat.le_of_ble_eq_true rfl) (Nat.le_of_ble_eq_true rfl) ?_
                exact ret _ _ _ _ _ dX3_line_105 ⟨hcd, by rw [iz_nI (by omega), hng], by have h9 := Rl_ln hI hR hi h15 (by omega) hw; unfold stLine; rw [if_pos hcd, iz_nI (by omega)]; rw [hng] at h9 ⊢; exact h9, FrK_ln (by omega) hn9, hE9⟩
          · have hn9 : nlO s i = 4 := by rw [i_lt, nI_toInt (by omega), show (4 : Int32).toInt = 4 from rfl] at h65; omega
            exact thr _ _ _ _ _ 2 _ _ (List.mem_of_getElem? (i := 14) rfl) ⟨Nat.le_of_ble_eq_true rfl, Nat.le_of_ble_eq_true rfl⟩ dX3_line_68 dX3_line_71 dX3_line_72 dX3_line_74 dX3_line_77 (PXx.no (k := 3) (by unfold cdLine; rw [if_neg (by simp [k5]), if_neg (by rw [b1]; decide), if_pos (by rw [iz_nI (by omega)]; exact Or.inr hn9)]) (by decide) rfl (by unfold stLine; rw [if_neg (by rw [show cdLine s (nI i) (nI w) = 3 by unfold cdLine; rw [if_neg (by simp [k5]), if_neg (by rw [b1]; decide), if_pos (by rw [iz_nI (by omega)]; exact Or.inr hn9)]]; decide)]) hR FrK.rf)
      · exact thr _ _ _ _ _ 1 _ _ (List.mem_of_getElem? (i := 13) rfl) ⟨Nat.le_of_ble_eq_true rfl, Nat.le_of_ble_eq_true rfl⟩ dX3_line_28 dX3_line_31 dX3_line_32 dX3_line_34 dX3_line_37 (PXx.no (k := 2) (by unfold cdLine; rw [if_neg (by simp [k5]), if_pos (inB_f.mpr (by have z1 : (0 : Int32).toInt = 0 := rfl; have z9 : (99999999 : Int32).toInt = 99999999 := rfl; simp only [i_lt, i_le] at h19 h25; omega))]) (by decide) rfl (by unfold stLine; rw [if_neg (by rw [show cdLine s (nI i) v = 2 by unfold cdLine; rw [if_neg (by simp [k5]), if_pos (inB_f.mpr (by have z1 : (0 : Int32).toInt = 0 := rfl; have z9 : (99999999 : Int32).toInt = 99999999 := rfl; simp only [i_lt, i_le] at h19 h25; omega))]]; decide)]) hR FrK.rf)
  · have k5 := bI_0.mp h5
    exact thr _ _ _ _ _ 0 _ _ (List.mem_of_getElem? (i := 12) rfl) ⟨Nat.le_of_ble_eq_true rfl, Nat.le_of_ble_eq_true rfl⟩ dX3_line_8 dX3_line_11 dX3_line_12 dX3_line_14 dX3_line_17 (PXx.no (k := 1) (by unfold cdLine; rw [if_pos k5]) (by decide) rfl (by unfold stLine; rw [if_neg (by rw [show cdLine s p v = 1 by unfold cdLine; rw [if_pos k5]]; decide)]) hR FrK.rf)
