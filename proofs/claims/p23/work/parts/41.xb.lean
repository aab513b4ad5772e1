/-! THE CLASS: strike -/
/-- given back by the first q lines of poster p -/
def skS (s : MG) (p q : Nat) : MG := rwr s 7 (fun j => if j < 50 then s 7 j - nI (outN (s 18) (tkO s) (wdO s) p (j / 10) (j % 10) q) else s 7 j)
theorem skS_r {s : MG} {p q k : Nat} (h : k ≠ 7) : skS s p q k = s k := rwr_ne _ _ _ h
theorem skS_0 (s : MG) (p : Nat) : skS s p 0 = s := by
  funext k
  unfold skS rwr
  by_cases h : k = 7
  · rw [if_pos h, h]
    funext j
    by_cases hj : j < 50
    · rw [if_pos hj, outN]
      exact Int32.sub_zero _
    · rw [if_neg hj]
  · rw [if_neg h]
theorem skS_I {s : MG} (hI : IvM s) (p q : Nat) : IvM (skS s p q) := IvM_eq hI (by rw [skS_r (by decide)]) (by rw [skS_r (by decide)]) (fun k k1 k2 => skS_r (by omega))
theorem Rl_back {s g1 : MG} (hI : IvM s) {p q f : Nat} (hp : p < npO s) (h1 : s 15 p = 1) (hq : q < nlO s p) (hf : f < nfO s) (hfe : s 18 (4 * p + q) = nI f) (hR : Rl (skS s p q) g1) : Rl (skS s p (q + 1)) (rwr g1 (40 + 10 * f + 2) (fun j => if j < 10 then g1 (40 + 10 * f + 2) j + g1 (200 + 10 * (4 * p + q) + 2) j else g1 (40 + 10 * f + 2) j)) := by
  have hf5 := (IvM_nf hI).1
  have hp6 := (IvM_np hI).1
  have hm4 := (IvM_nl hI (show p < 6 by omega)).2
  have hln := ((hR.2.2 p hp).2.2.2.2.2 q hq).2 h1
  obtain ⟨⟨a1, a2, a3, a4, a5, a6, a7⟩, hF, hP⟩ := hR
  have es : ∀ z, z ≠ 7 → skS s p (q + 1) z = skS s p q z := fun z hz => (skS_r hz).trans (skS_r hz).symm
  have eg : ∀ k, k ≠ 40 + 10 * f + 2 → rwr g1 (40 + 10 * f + 2) (fun j => if j < 10 then g1 (40 + 10 * f + 2) j + g1 (200 + 10 * (4 * p + q) + 2) j else g1 (40 + 10 * f + 2) j) k = g1 k := fun k hk => rwr_ne _ _ _ hk
  refine ⟨⟨by rw [es 0 (by decide), eg 31 (by omega)]; exact a1, by rw [es 0 (by decide), eg 32 (by omega)]; exact a2, by rw [es 0 (by decide), eg 30 (by omega)]; exact a3, by rw [es 0 (by decide), eg 30 (by omega)]; exact a4, by rw [es 9 (by decide), eg 33 (by omega)]; exact a5, by rw [es 10 (by decide), eg 34 (by omega)]; exact a6, by rw [es 11 (by decide), eg 35 (by omega)]; exact a7⟩, fun b hb => ?_, hP.c (by rw [es 0 (by decide)]) (fun k k1 k2 => es k (by omega)) (fun k k1 k2 => eg k (by omega)) hp6 (fun a ha => (IvM_nl hI ha).2)⟩
  have hb' : b < nfO s := hb
  obtain ⟨e1, e2, e3⟩ := hF b hb
  rw [es 5 (by decide), es 6 (by decide), es 8 (by decide), eg (40 + 10 * b) (by omega), eg (40 + 10 * b + 1) (by omega), eg (40 + 10 * b + 3) (by omega)]
  refine ⟨e1, e2, fun j hj => ?_⟩
  obtain ⟨e4, e5, e6⟩ := e3 j hj
  refine ⟨e4, ?_, e6⟩
  have e7 : ∀ z, skS s p z 7 (10 * b + j) = s 7 (10 * b + j) - nI (outN (s 18) (tkO s) (wdO s) p b j z) := fun z => by
    unfold skS
    rw [rwr_same, if_pos (by omega), show (10 * b + j) / 10 = b by omega, show (10 * b + j) % 10 = j by omega]
  rw [e7] at e5 ⊢
  rw [outN, hfe]
  by_cases hbf : b = f
  · subst hbf
    have e8 : g1 (200 + 10 * (4 * p + q) + 2) j = nI (cntD (tkO s (4 * p + q)) j (szw (wdO s (4 * p + q)))) := hln.2.2.2 j hj
    rw [rwr_same, if_pos hj, if_pos rfl, e5, e8, ← nI_add]
    grind
  · rw [eg _ (by omega), if_neg (fun z => hbf (nI_inj (by omega) (by omega) z).symm), Nat.add_zero]
    exact e5
theorem Rl_unset {s g : MG} (hI : IvM s) (h : Rl s g) {p : Nat} (hp : p < npO s) : Rl (wr s 15 p 0) (wr g (100 + 10 * p) 3 0) := by
  have hp6 := (IvM_np hI).1
  obtain ⟨⟨a1, a2, a3, a4, a5, a6, a7⟩, hF, hP⟩ := h
  have es : ∀ z, z ≠ 15 → wr s 15 p 0 z = s z := fun z z1 => wr_row _ _ _ _ z1
  have eg : ∀ k, k ≠ 100 + 10 * p → wr g (100 + 10 * p) 3 0 k = g k := fun k k1 => wr_row _ _ _ _ k1
  refine ⟨⟨by rw [es 0 (by decide), eg 31 (by omega)]; exact a1, by rw [es 0 (by decide), eg 32 (by omega)]; exact a2, by rw [es 0 (by decide), eg 30 (by omega)]; exact a3, by rw [es 0 (by decide), eg 30 (by omega)]; exact a4, by rw [es 9 (by decide), eg 33 (by omega)]; exact a5, by rw [es 10 (by decide), eg 34 (by omega)]; exact a6, by rw [es 11 (by decide), eg 35 (by omega)]; exact a7⟩, hF.c (by rw [es 0 (by decide)]) (fun k k1 k2 => es k (by omega)) (fun k k1 k2 _ => eg k (by omega)) (IvM_nf hI).1, fun a ha => ?_⟩
  have ha' : a < npO s := ha
  obtain ⟨e1, e2, e3, e4, e5, e6⟩ := hP a ha'
  have hm4 := (IvM_nl hI (show a < 6 by omega)).2
  have hj : ∀ j, j ≠ 3 → wr g (100 + 10 * p) 3 0 (100 + 10 * a) j = g (100 + 10 * a) j := fun j hj => wr_ne _ _ _ _ (Or.inr hj)
  rw [hj 0 (by decide), hj 1 (by decide), hj 4 (by decide), eg (100 + 10 * a + 1) (by omega), es 12 (by decide), es 13 (by decide), es 14 (by decide), es 16 (by decide)]
  refine ⟨e1, e2, ?_, e4, e5, fun q hq => ?_⟩
  · by_cases hap : a = p
    · subst hap
      rw [wr_same, wr_same]
    · rw [wr_row _ _ _ _ (by omega), wr_ne _ _ _ _ (Or.inr hap)]; exact e3
  · have hq' : q < nlO s a := hq
    obtain ⟨w1, w2⟩ := e6 q hq'
    by_cases hap : a = p
    · subst hap
      refine ⟨?_, fun z => absurd ((wr_same s 15 a 0).symm.trans z) (by decide)⟩
      unfold LwP at w1 ⊢
      rw [eg _ (by omega), eg _ (by omega)]
      exact w1
    · exact RlL.c ⟨w1, w2⟩ (wr_ne _ _ _ _ (Or.inr hap)) (by rw [es 17 (by decide)]) (fun _ => ⟨by rw [es 18 (by decide)], by rw [es 19 (by decide)], by rw [es 20 (by decide)]⟩) (by rw [eg _ (by omega)]) (eg _ (by omega)) (fun _ => ⟨eg _ (by omega), eg _ (by omega)⟩)
/-- what breaks of a letter -/
def bkO (t : MG) (j : Nat) : Int32 := mn (t 8 j / 400) (t 6 j - t 7 j)
/-- broken in the first n founts -/
def bkS (t : MG) (n : Nat) : MG := fun k j => if k = 6 ∧ j < 10 * n then t 6 j - bkO t j else if k = 8 ∧ j < 10 * n then t 8 j - bkO t j * 400 else t k j
theorem bkS_0 (t : MG) : bkS t 0 = t := by
  funext k j
  unfold bkS
  rw [if_neg (by omega), if_neg (by omega)]
theorem bkS_r {t : MG} {n k : Nat} (h6 : k ≠ 6) (h8 : k ≠ 8) : bkS t n k = t k := by
  funext j
  unfold bkS
  rw [if_neg (fun z => h6 z.1), if_neg (fun z => h8 z.1)]
theorem bkS_I {t : MG} (hI : IvM t) (n : Nat) : IvM (bkS t n) := IvM_eq hI (by rw [bkS_r (by decide) (by decide)]) (by rw [bkS_r (by decide) (by decide)]) (fun k k1 k2 => bkS_r (by omega) (by omega))
theorem Rl_break {t g1 : MG} (hI : IvM t) {i : Nat} (hi : i < nfO t) (hR : Rl (bkS t i) g1) : Rl (bkS t (i + 1)) (bwG g1 i) ∧ sumI (fun j => (mn (g1 (40 + 10 * i + 3) j / 400) (g1 (40 + 10 * i + 2) j))) 10 = sumI (fun j => bkO t (10 * i + j)) 10 := by
  have hf5 := (IvM_nf hI).1
  have hp6 := (IvM_np hI).1
  obtain ⟨⟨a1, a2, a3, a4, a5, a6, a7⟩, hF, hP⟩ := hR
  have es : ∀ z, z ≠ 6 → z ≠ 8 → bkS t (i + 1) z = bkS t i z := fun z h6 h8 => (bkS_r h6 h8).trans (bkS_r h6 h8).symm
  have eg : ∀ k, k ≠ 40 + 10 * i + 1 → k ≠ 40 + 10 * i + 2 → k ≠ 40 + 10 * i + 3 → bwG g1 i k = g1 k := fun k k1 k2 k3 => by unfold bwG; rw [if_neg k1, if_neg k2, if_neg k3]
  have ebr : ∀ j, j < 10 → mn (g1 (40 + 10 * i + 3) j / 400) (g1 (40 + 10 * i + 2) j) = bkO t (10 * i + j) := fun j hj => by
    obtain ⟨-, -, e3⟩ := hF i hi
    obtain ⟨e4, e5, e6⟩ := e3 j hj
    have kz : ∀ z, bkS t i z (10 * i + j) = t z (10 * i + j) := fun z => by unfold bkS; rw [if_neg (by omega), if_neg (by omega)]
    rw [e5, e6, kz, kz, kz]
    rfl
  refine ⟨⟨⟨by rw [es 0 (by decide) (by decide), eg 31 (by omega) (by omega) (by omega)]; exact a1, by rw [es 0 (by decide) (by decide), eg 32 (by omega) (by omega) (by omega)]; exact a2, by rw [es 0 (by decide) (by decide), eg 30 (by omega) (by omega) (by omega)]; exact a3, by rw [es 0 (by decide) (by decide), eg 30 (by omega) (by omega) (by omega)]; exact a4, by rw [es 9 (by decide) (by decide), eg 33 (by omega) (by omega) (by omega)]; exact a5, by rw [es 10 (by decide) (by decide), eg 34 (by omega) (by omega) (by omega)]; exact a6, by rw [es 11 (by decide) (by decide), eg 35 (by omega) (by omega) (by omega)]; exact a7⟩, fun b hb => ?_, hP.c (by rw [es 0 (by decide) (by decide)]) (fun k k1 k2 => es k (by omega) (by omega)) (fun k k1 k2 => eg k (by omega) (by omega) (by omega)) (by show npO t ≤ 6; exact hp6) (fun a ha => (IvM_nl hI ha).2)⟩, sumI_cong 10 ebr⟩
  have hb' : b < nfO t := hb
  obtain ⟨e1, e2, e3⟩ := hF b hb
  rw [es 5 (by decide) (by decide), es 7 (by decide) (by decide), eg (40 + 10 * b) (by omega) (by omega) (by omega)]
  refine ⟨e1, e2, fun j hj => ?_⟩
  obtain ⟨e4, e5, e6⟩ := e3 j hj
  by_cases hbi : b = i
  · subst hbi
    have k6 : bkS t b 6 (10 * b + j) = t 6 (10 * b + j) := by unfold bkS; rw [if_neg (by omega), if_neg (by omega)]
    have k8 : bkS t b 8 (10 * b + j) = t 8 (10 * b + j) := by unfold bkS; rw [if_neg (by omega), if_neg (by omega)]
    have n6 : bkS t (b + 1) 6 (10 * b + j) = t 6 (10 * b + j) - bkO t (10 * b + j) := by unfold bkS; rw [if_pos ⟨rfl, by omega⟩]
    have n8 : bkS t (b + 1) 8 (10 * b + j) = t 8 (10 * b + j) - bkO t (10 * b + j) * 400 := by unfold bkS; rw [if_neg (by omega), if_pos ⟨rfl, by omega⟩]
    have w1 : bwG g1 b (40 + 10 * b + 1) j = g1 (40 + 10 * b + 1) j - bkO t (10 * b + j) := by unfold bwG; rw [if_pos rfl, ← ebr j hj]; exact if_pos hj
    have w2 : bwG g1 b (40 + 10 * b + 2) j = g1 (40 + 10 * b + 2) j - bkO t (10 * b + j) := by unfold bwG; rw [if_neg (by omega), if_pos rfl, ← ebr j hj]; exact if_pos hj
    have w3 : bwG g1 b (40 + 10 * b + 3) j = g1 (40 + 10 * b + 3) j - bkO t (10 * b + j) * 400 := by unfold bwG; rw [if_neg (by omega), if_neg (by omega), if_pos rfl, ← ebr j hj]; exact if_pos hj
    rw [w1, w2, w3, n6, n8, e4, e5, e6, k6, k8]
    exact ⟨rfl, by grind, rfl⟩
  · have k : ∀ z, bkS t (i + 1) z (10 * b + j) = bkS t i z (10 * b + j) := fun z => by
      unfold bkS
      have h : (10 * b + j < 10 * (i + 1)) = (10 * b + j < 10 * i) := propext ⟨fun _ => by omega, fun _ => by omega⟩
      simp only [h]
    rw [k, k, eg _ (by omega) (by omega) (by omega), eg _ (by omega) (by omega) (by omega), eg _ (by omega) (by omega) (by omega)]
    exact ⟨e4, e5, e6⟩
