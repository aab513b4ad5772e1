/-! THE LAW'S CELLS NAMED ANEW: every row where it belongs, references and all -/
/-- a row r' of a new world is the row r of the old one, its references named anew -/
def RwE (ad ad' : Nat → Nat) (r r' : Nat → Int32) : Prop := (r' 100000 = 1 ∧ r' = r) ∨ ((r' 100000 = 2 ∨ r' 100000 = 3 ∨ r' 100000 = 4) ∧ r 100000 = r' 100000 ∧ r 100001 = r' 100001 ∧ ∀ j, j < iz (r' 100001) → fW ad' (r' j) = fW ad (r j)) ∨ (r' 100000 = 5 ∧ r 100000 = 5 ∧ psF ad' r' = psF ad r) ∨ (r' 100000 = 6 ∧ r 100000 = 6 ∧ smF ad' r' = smF ad r)
theorem RwE.at {ad ad' : Nat → Nat} {r r' : Nat → Int32} (h : RwE ad ad' r r') {Y : Yc} {e' : va_E} (he : cW Y ad' r' = some e') : ∃ e, cW Y ad r = some e ∧ ∀ (D : va_G) (H : Heap) (a : Nat), va_at D vwCl (a, e) H → va_at D vwCl (a, e') H := by
  have hq : ∀ (c : ClassId) (n : Nat) (f f' : Nat → Option Nat), (∀ j, j < n → f' j = f j) → ∀ (D : va_G) (H : Heap) (a : Nat), va_at D vwCl (a, .inl (c, n, .inr (.inr (.inr (.inr f))))) H → va_at D vwCl (a, .inl (c, n, .inr (.inr (.inr (.inr f'))))) H := by
    intro c n f f' hf D H a h
    have h : H[a]? = some (vp_cell c (n, .inr (.inr (.inr (.inr f))))) := h
    show H[a]? = some (vp_cell c (n, .inr (.inr (.inr (.inr f')))))
    rw [h, vp_cell_q, vp_cell_q]
    congr 1
    exact arrV_c _ _ (fun j hj => by rw [hf j hj])
  rcases h with ⟨h1, h2⟩ | ⟨h1, h2, h3, h4⟩ | ⟨h1, h2, h3⟩ | ⟨h1, h2, h3⟩
  · subst h2
    refine ⟨e', ?_, fun _ _ _ h => h⟩
    rw [← he]
    unfold cW
    rw [if_pos h1, if_pos h1]
  · rw [← h3] at h4
    rcases h1 with h1 | h1 | h1
    · have h2 : r 100000 = 2 := h2.trans h1
      simp [cW, h1] at he
      refine ⟨.inl (Y.2.2.1, iz (r 100001), .inr (.inr (.inr (.inr (fun j => fW ad (r j)))))), by simp [cW, h2], fun D H a h => ?_⟩
      rw [← he, ← h3]
      exact hq _ _ _ _ h4 D H a h
    · have h2 : r 100000 = 3 := h2.trans h1
      simp [cW, h1] at he
      refine ⟨.inl (Y.2.2.2.1, iz (r 100001), .inr (.inr (.inr (.inr (fun j => fW ad (r j)))))), by simp [cW, h2], fun D H a h => ?_⟩
      rw [← he, ← h3]
      exact hq _ _ _ _ h4 D H a h
    · have h2 : r 100000 = 4 := h2.trans h1
      simp [cW, h1] at he
      refine ⟨.inl (Y.2.2.2.2.1, iz (r 100001), .inr (.inr (.inr (.inr (fun j => fW ad (r j)))))), by simp [cW, h2], fun D H a h => ?_⟩
      rw [← he, ← h3]
      exact hq _ _ _ _ h4 D H a h
  · refine ⟨e', ?_, fun _ _ _ h => h⟩
    rw [← he, cW_5 h1, cW_5 h2, h3]
  · refine ⟨e', ?_, fun _ _ _ h => h⟩
    rw [← he, cW_6 h1, cW_6 h2, h3]
theorem Hw_mapE {Z : Zc} {g : MG} {H : Heap} (hw : HwZ Z g H) {ad' : Nat → Nat} {m' : MG} (σ : Nat → Nat) (hlo : ∀ k, k < 600 → ad' k = Z.ad k) (h : ∀ k, 600 ≤ k → k < 1200 → m' k 100000 ≠ 0 → (600 ≤ σ k ∧ σ k < 1200) ∧ RwE Z.ad ad' (Z.m (σ k)) (m' k) ∧ ad' k = Z.ad (σ k)) (hinj : ∀ a b, 600 ≤ a → a < 1200 → 600 ≤ b → b < 1200 → m' a 100000 ≠ 0 → m' b 100000 ≠ 0 → σ a = σ b → a = b) : HwZ (Z.wl ad' m') g H := by
  have hs : ∀ k e, cx (Z.wl ad' m').Y ad' Z.df g k = some e → (k < 600 ∧ cx Z.Y Z.ad Z.df g k = some e) ∨ ((600 ≤ k ∧ k < 1200) ∧ m' k 100000 ≠ 0 ∧ ∃ e0, cx Z.Y Z.ad Z.df g (σ k) = some e0 ∧ ∀ a, va_at Z.D vwCl (a, e0) H → va_at Z.D vwCl (a, e) H) := by
    intro k e hk
    by_cases h1 : k < 600
    · exact Or.inl ⟨h1, ((cx_Y h1).trans (cx_ad hw.2.2 hlo h1)).symm.trans hk⟩
    · by_cases h2 : k < 1200
      · have hc : cx (Z.wl ad' m').Y ad' Z.df g k = cW Z.Y ad' (m' k) := cx_law ⟨by omega, h2⟩
        rw [hc] at hk
        have h3 : m' k 100000 ≠ 0 := fun z => by rw [cW_0 z] at hk; cases hk
        obtain ⟨h4, h5, -⟩ := h k (by omega) h2 h3
        obtain ⟨e0, h6, h7⟩ := h5.at hk
        exact Or.inr ⟨⟨by omega, h2⟩, h3, e0, (cx_law h4).trans h6, fun a => h7 Z.D H a⟩
      · rw [cx_top _ _ _ _ (by omega)] at hk
        cases hk
  refine ⟨fun k e he => ?_, fun a b ha hb hab => ?_, hw.2.2⟩
  · have he : cx (Z.wl ad' m').Y ad' Z.df g k = some e := he
    show va_at Z.D vwCl (ad' k, e) H ∧ Z.z ≤ ad' k
    rcases hs k e he with ⟨h1, h2⟩ | ⟨h1, h2, e0, h3, h4⟩
    · rw [hlo k h1]
      exact hw.1 k e h2
    · rw [(h k h1.1 h1.2 h2).2.2]
      exact ⟨h4 _ (hw.1 _ e0 h3).1, (hw.1 _ e0 h3).2⟩
  · have hab : ad' a = ad' b := hab
    obtain ⟨ea, hea⟩ := Option.ne_none_iff_exists'.mp ha
    obtain ⟨eb, heb⟩ := Option.ne_none_iff_exists'.mp hb
    rcases hs a ea hea with ⟨a1, a2⟩ | ⟨a1, a2, a3, a4, -⟩
    · rcases hs b eb heb with ⟨b1, b2⟩ | ⟨b1, b2, b3, b4, -⟩
      · rw [hlo a a1, hlo b b1] at hab
        exact hw.2.1 a b (by rw [a2]; simp) (by rw [b2]; simp) hab
      · rw [hlo a a1, (h b b1.1 b1.2 b2).2.2] at hab
        have := hw.2.1 a (σ b) (by rw [a2]; simp) (by rw [b4]; simp) hab
        have := (h b b1.1 b1.2 b2).1.1
        omega
    · rcases hs b eb heb with ⟨b1, b2⟩ | ⟨b1, b2, b3, b4, -⟩
      · rw [hlo b b1, (h a a1.1 a1.2 a2).2.2] at hab
        have := hw.2.1 (σ a) b (by rw [a4]; simp) (by rw [b2]; simp) hab
        have := (h a a1.1 a1.2 a2).1.1
        omega
      · rw [(h a a1.1 a1.2 a2).2.2, (h b b1.1 b1.2 b2).2.2] at hab
        exact hinj a b a1.1 a1.2 b1.1 b1.2 a2 b2 (hw.2.1 _ _ (by rw [a4]; simp) (by rw [b4]; simp) hab)
/-- a row of references, each where it belongs -/
def rfN (n : Nat) (f : Nat → Nat) (r : Nat → Int32) : Nat → Int32 := fun j => if j = 100000 then r 100000 else if j = 100001 then r 100001 else if j < n then nI (f j) else 0
theorem rfN_k (n : Nat) (f : Nat → Nat) (r : Nat → Int32) : rfN n f r 100000 = r 100000 := if_pos rfl
theorem rfN_l (n : Nat) (f : Nat → Nat) (r : Nat → Int32) : rfN n f r 100001 = r 100001 := rfl
theorem rfN_j {n : Nat} {f : Nat → Nat} {r : Nat → Int32} {j : Nat} (hn : n < 1000) (hj : j < n) : rfN n f r j = nI (f j) := by
  unfold rfN
  rw [if_neg (by omega), if_neg (by omega), if_pos hj]
theorem rfN_R {n : Nat} {f : Nat → Nat} {r : Nat → Int32} (hk : iz (r 100000) < 600) (hr : r 100001 = nI n) (hn : n < 600) (hf : ∀ j, j < n → f j < 900) : RfR (rfN n f r) 900 := by
  intro j _
  unfold rfN
  by_cases h1 : j = 100000
  · rw [if_pos h1]; omega
  · rw [if_neg h1]
    by_cases h2 : j = 100001
    · rw [if_pos h2, hr, iz_nI (by omega)]; omega
    · rw [if_neg h2]
      by_cases h3 : j < n
      · rw [if_pos h3, iz_nI (by have := hf j h3; omega)]; exact hf j h3
      · rw [if_neg h3]
        have : iz (0 : Int32) = 0 := rfl
        omega
theorem rfN_E {ad : Nat → Nat} {σ : Nat → Nat} {n : Nat} {f : Nat → Nat} {r : Nat → Int32} (hk : r 100000 = 2 ∨ r 100000 = 3 ∨ r 100000 = 4) (hr : r 100001 = nI n) (hn : n < 1000) (hf : ∀ j, j < n → r j = nI (σ (f j)) ∧ (600 ≤ f j ∧ f j < 900)) (hσ : ∀ k, 600 ≤ k → k < 900 → 600 ≤ σ k ∧ σ k < 1200) : RwE ad (fun k => if k < 600 then ad k else ad (σ k)) r (rfN n f r) := by
  refine Or.inr (Or.inl ⟨by rw [rfN_k]; exact hk, (rfN_k _ _ _).symm, (rfN_l _ _ _).symm, fun j hj => ?_⟩)
  rw [rfN_l, hr, iz_nI (by omega)] at hj
  obtain ⟨h1, h2⟩ := hf j hj
  rw [rfN_j hn hj, h1, fW_nI ⟨h2.1, by omega⟩, fW_nI (hσ _ h2.1 h2.2), if_neg (by omega)]
/-- the law's shop, every row at the key that σ says -/
def CnP (s m : MG) (σ : Nat → Nat) (p : Nat) : Prop := (m (σ (700 + 20 * p)) 100000 = 5 ∧ m (σ (700 + 20 * p)) 0 = s 12 p ∧ m (σ (700 + 20 * p)) 1 = s 13 p ∧ m (σ (700 + 20 * p)) 2 = nI (σ (701 + 20 * p)) ∧ m (σ (700 + 20 * p)) 3 = s 15 p ∧ m (σ (700 + 20 * p)) 4 = s 16 p ∧ m (σ (700 + 20 * p)) 5 = nI (σ (702 + 20 * p)) ∧ m (σ (700 + 20 * p)) 6 = nI (σ (703 + 20 * p)) ∧ m (σ (700 + 20 * p)) 7 = nI (σ (704 + 20 * p)))
  ∧ (isQ m 2 (σ (701 + 20 * p)) (nlO s p) ∧ ∀ q, q < nlO s p → m (σ (701 + 20 * p)) q = nI (σ (705 + 20 * p + q)) ∧ LtR m (σ (705 + 20 * p + q)) (szw (wdO s (4 * p + q))) (wdO s (4 * p + q)))
  ∧ (∃ n, n ≤ 4 ∧ isA m (σ (702 + 20 * p)) n) ∧ (∃ n, n ≤ 4 ∧ isA m (σ (703 + 20 * p)) n ∧ (s 15 p = 1 → n = nlO s p))
  ∧ (s 15 p = 1 → isA m (σ (702 + 20 * p)) (nlO s p) ∧ isQ m 2 (σ (704 + 20 * p)) (nlO s p) ∧ ∀ q, q < nlO s p → m (σ (702 + 20 * p)) q = s 18 (4 * p + q) ∧ m (σ (703 + 20 * p)) q = s 19 (4 * p + q) ∧ m (σ (704 + 20 * p)) q = nI (σ (710 + 20 * p + q)) ∧ LtR m (σ (710 + 20 * p + q)) (szw (wdO s (4 * p + q))) (tkO s (4 * p + q)))
def Cn (s m : MG) (σ : Nat → Nat) : Prop :=
  (m (σ 600) 100000 = 6 ∧ m (σ 600) 0 = s 0 3 ∧ m (σ 600) 1 = s 0 4 ∧ m (σ 600) 2 = nI (σ 601) ∧ m (σ 600) 3 = nI (σ 602) ∧ m (σ 600) 4 = nI (σ 603) ∧ m (σ 600) 5 = nI (σ 604) ∧ m (σ 600) 6 = nI (σ 605))
  ∧ ((isA m (σ 601) (nfO s) ∧ ∀ f, f < nfO s → m (σ 601) f = s 5 f) ∧ (isQ m 3 (σ 602) (nfO s) ∧ ∀ f, f < nfO s → m (σ 602) f = nI (σ (610 + f))) ∧ ∀ f, f < nfO s → isQ m 2 (σ (610 + f)) 10 ∧ ∀ k, k < 10 → m (σ (610 + f)) k = nI (σ (620 + 10 * f + k)))
  ∧ (∀ f k, f < nfO s → k < 10 → isA m (σ (620 + 10 * f + k)) 3 ∧ m (σ (620 + 10 * f + k)) 0 = s 6 (10 * f + k) ∧ m (σ (620 + 10 * f + k)) 1 = s 7 (10 * f + k) ∧ m (σ (620 + 10 * f + k)) 2 = s 8 (10 * f + k))
  ∧ (isA m (σ 603) 10 ∧ ∀ j, j < 10 → m (σ 603) j = s 9 j)
  ∧ (isQ m 2 (σ 604) 4 ∧ ∀ t, t < 4 → m (σ 604) t = nI (σ (606 + t)) ∧ isA m (σ (606 + t)) 2 ∧ m (σ (606 + t)) 0 = s 10 t ∧ m (σ (606 + t)) 1 = s 11 t)
  ∧ (isQ m 4 (σ 605) (npO s) ∧ ∀ p, p < npO s → m (σ 605) p = nI (σ (700 + 20 * p)))
  ∧ ∀ p, p < npO s → CnP s m σ p
def cnS (r : Nat → Int32) : Nat → Int32 := fun j => if j = 2 then nI 601 else if j = 3 then nI 602 else if j = 4 then nI 603 else if j = 5 then nI 604 else if j = 6 then nI 605 else r j
def cnQ (p : Nat) (r : Nat → Int32) : Nat → Int32 := fun j => if j = 2 then nI (701 + 20 * p) else if j = 5 then nI (702 + 20 * p) else if j = 6 then nI (703 + 20 * p) else if j = 7 then nI (704 + 20 * p) else r j
/-- poster p's keys, q past its first -/
def cnP (s m : MG) (σ : Nat → Nat) (p q : Nat) : Nat → Int32 :=
  if q = 0 then cnQ p (m (σ (700 + 20 * p)))
  else if q = 1 then rfN (nlO s p) (fun j => 705 + 20 * p + j) (m (σ (701 + 20 * p)))
  else if q = 4 then (if s 15 p = 1 then rfN (nlO s p) (fun j => 710 + 20 * p + j) (m (σ (704 + 20 * p))) else fun _ => 0)
  else if q = 2 ∨ q = 3 ∨ (5 ≤ q ∧ q < 5 + nlO s p) ∨ (10 ≤ q ∧ q < 10 + nlO s p ∧ s 15 p = 1) then m (σ (700 + 20 * p + q))
  else fun _ => 0
/-- the shop's rows, each where it belongs -/
def cnM (s m : MG) (σ : Nat → Nat) : MG := fun k =>
  if k = 600 then cnS (m (σ 600))
  else if k = 602 then rfN (nfO s) (fun j => 610 + j) (m (σ 602))
  else if k = 604 then rfN 4 (fun j => 606 + j) (m (σ 604))
  else if k = 605 then rfN (npO s) (fun j => 700 + 20 * j) (m (σ 605))
  else if 610 ≤ k ∧ k < 610 + nfO s then rfN 10 (fun j => 620 + 10 * (k - 610) + j) (m (σ k))
  else if k = 601 ∨ k = 603 ∨ (606 ≤ k ∧ k < 610) ∨ (620 ≤ k ∧ k < 620 + 10 * nfO s) then m (σ k)
  else if 700 ≤ k ∧ k < 700 + 20 * npO s then cnP s m σ ((k - 700) / 20) ((k - 700) % 20)
  else fun _ => 0
section CN
variable {s m : MG} {σ : Nat → Nat}
theorem cnM_600 : cnM s m σ 600 = cnS (m (σ 600)) := if_pos rfl
theorem cnM_602 : cnM s m σ 602 = rfN (nfO s) (fun j => 610 + j) (m (σ 602)) := rfl
theorem cnM_604 : cnM s m σ 604 = rfN 4 (fun j => 606 + j) (m (σ 604)) := rfl
theorem cnM_605 : cnM s m σ 605 = rfN (npO s) (fun j => 700 + 20 * j) (m (σ 605)) := rfl
theorem cnM_610 {f : Nat} (hf : f < nfO s) (h5 : nfO s ≤ 5) : cnM s m σ (610 + f) = rfN 10 (fun j => 620 + 10 * f + j) (m (σ (610 + f))) := by
  unfold cnM
  rw [if_neg (by omega), if_neg (by omega), if_neg (by omega), if_neg (by omega), if_pos (by omega), show 610 + f - 610 = f by omega]
theorem cnM_i {k : Nat} (h5 : nfO s ≤ 5) (hk : k = 601 ∨ k = 603 ∨ (606 ≤ k ∧ k < 610) ∨ (620 ≤ k ∧ k < 620 + 10 * nfO s)) : cnM s m σ k = m (σ k) := by
  unfold cnM
  rw [if_neg (by omega), if_neg (by omega), if_neg (by omega), if_neg (by omega), if_neg (by omega), if_pos hk]
theorem cnM_P {p q : Nat} (h5 : nfO s ≤ 5) (hp : p < npO s) (hq : q < 20) : cnM s m σ (700 + 20 * p + q) = cnP s m σ p q := by
  unfold cnM
  rw [if_neg (by omega), if_neg (by omega), if_neg (by omega), if_neg (by omega), if_neg (by omega), if_neg (by omega), if_pos (by omega), show (700 + 20 * p + q - 700) / 20 = p by omega, show (700 + 20 * p + q - 700) % 20 = q by omega]
theorem cnM_0 {k : Nat} (h5 : nfO s ≤ 5) (hk : ¬ (600 ≤ k ∧ k < 610)) (h1 : ¬ (610 ≤ k ∧ k < 610 + nfO s)) (h2 : ¬ (620 ≤ k ∧ k < 620 + 10 * nfO s)) (h3 : ¬ (700 ≤ k ∧ k < 700 + 20 * npO s)) : cnM s m σ k = fun _ => 0 := by
  unfold cnM
  rw [if_neg (by omega), if_neg (by omega), if_neg (by omega), if_neg (by omega), if_neg h1, if_neg (by omega), if_neg h3]
/-- every key: one of these -/
theorem cnM_all {Q : Nat → Prop} (h5 : nfO s ≤ 5) (q0 : Q 600) (q2 : Q 602) (q4 : Q 604) (q5 : Q 605) (q10 : ∀ f, f < nfO s → Q (610 + f)) (qi : ∀ k, (k = 601 ∨ k = 603 ∨ (606 ≤ k ∧ k < 610) ∨ (620 ≤ k ∧ k < 620 + 10 * nfO s)) → Q k) (qP : ∀ p q, p < npO s → q < 20 → Q (700 + 20 * p + q)) (qz : ∀ k, cnM s m σ k = (fun _ => 0) → Q k) : ∀ k, Q k := by
  intro k
  by_cases h1 : 600 ≤ k ∧ k < 610
  · by_cases h : k = 600
    · subst h; exact q0
    by_cases h : k = 602
    · subst h; exact q2
    by_cases h : k = 604
    · subst h; exact q4
    by_cases h : k = 605
    · subst h; exact q5
    exact qi k (by omega)
  by_cases h2 : 610 ≤ k ∧ k < 610 + nfO s
  · have := q10 (k - 610) (by omega)
    rwa [show 610 + (k - 610) = k by omega] at this
  by_cases h3 : 620 ≤ k ∧ k < 620 + 10 * nfO s
  · exact qi k (by omega)
  by_cases h4 : 700 ≤ k ∧ k < 700 + 20 * npO s
  · have := qP ((k - 700) / 20) ((k - 700) % 20) (by omega) (by omega)
    rwa [show 700 + 20 * ((k - 700) / 20) + (k - 700) % 20 = k by omega] at this
  exact qz k (cnM_0 h5 h1 h2 h3 h4)
end CN
