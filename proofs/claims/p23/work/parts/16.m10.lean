/-! THE REFERENCE: would, next, advise, lasts -/
def plO (g : MG) (p : Nat) : Option (List (Nat × TS) × (Nat → Int32)) := plM g p (nlO g p) (nfO g) (wdO g)
def prP (g : MG) (p : Nat) : Int32 := prT g (wdO g) p (nlO g p) (iz (g 12 p)) (plO g p)
theorem okE_A (b o : Nat → Int32) {nf : Nat} (h5 : nf ≤ 5) : okE (okA b o) (okA b o) nf := fun c mo mo' _ hR f k x hf hk _ => by unfold okA; rw [(hR (10 * f + k) (by omega)).1]
theorem Rm_0 (g g' : MG) : Rm 0 (moZ g) (moZ g') := fun j hj => by unfold moZ; rw [if_pos hj, if_pos hj]; exact ⟨rfl, 0, Nat.le_refl 0, rfl⟩
theorem plM_fr {g g1 : MG} (h : frP g g1) {p nl nf : Nat} (wd : Nat → Nat) (h5 : nf ≤ 5) (h4 : nl ≤ 4) (hot : otI (g 9)) : plE (plM g p nl nf wd) (plM g1 p nl nf wd) := by
  unfold plM
  rw [h.1 15 (by omega) (by decide), h.1 6 (by omega) (by decide), h.1 7 (by omega) (by decide), h.1 9 (by omega) (by decide), h.1 5 (by omega) (by decide), h.1 13 (by omega) (by decide)]
  split
  · exact trivial
  · exact plA_cong h5 hot (okE_A _ _ h5) _ _ _ _ 0 (Rm_0 g g1) (by rw [wds_len]; omega)
theorem plE_wd {o o' : Option (List (Nat × TS) × (Nat → Int32))} (h : plE o o') : wdF o' = wdF o := by
  cases o <;> cases o' <;> first | rfl | exact h.elim | (show flS _ = flS _; rw [h.1])
theorem plE_pr {g g1 : MG} (hf : frP g g1) {o o' : Option (List (Nat × TS) × (Nat → Int32))} (h : plE o o') (wd : Nat → Nat) (p nl t : Nat) : prT g1 wd p nl t o' = prT g wd p nl t o := by
  cases o <;> cases o' <;> first | rfl | exact h.elim | (unfold prT; rw [hf.1 5 (by omega) (by decide), hf.1 10 (by omega) (by decide), hf.1 11 (by omega) (by decide)]; simp only [h.1])
theorem frP.RE {g g' : MG} (h : frP (wr g 0 0 0) g') : g' 0 0 = nI 0 ∧ RE g g' ∧ ∀ q, 26 ≤ q → g' q = g q :=
  ⟨h.2 0 (by decide), RE.of (fun j h1 h2 => (h.2 j (by omega)).trans (wr_ne _ _ _ _ (Or.inr (by omega)))) (fun k h1 h2 => (h.1 k (by omega) (by omega)).trans (wr_row _ _ _ _ (by omega))), fun q hq => (h.1 q (by omega) (by omega)).trans (wr_row _ _ _ _ (by omega))⟩
def cdWould (g : MG) (p v : Int32) : Nat := if isN (npO g) p = false ∨ inB v 0 1 = false then 1 else 0
def anWould (g : MG) (p v : Int32) : Int32 := if v = 0 then prP g (iz p) else wdF (plO g (iz p))
def nxt (pf : Nat → Int32) : Nat → Int32 × Int32
  | 0 => (-1, -1)
  | p + 1 => if (nxt pf p).2 < pf p then (nI p, pf p) else nxt pf p
def adv (pf b6 : Nat → Int32) (f0 : Int32) : Nat → Int32 × Int32
  | 0 => (-1, f0)
  | k + 1 => if b6 k = 9 then adv pf b6 f0 k else if pf k = -1 ∨ (¬ (adv pf b6 f0 k).2 = -1 ∧ ¬ pf k < (adv pf b6 f0 k).2) then adv pf b6 f0 k else (nI k, pf k)
/-- the flaws with one block more -/
def pfO (g : MG) (p k : Nat) : Int32 := wdF (plO (wr g 6 k (g 6 k + 1)) p)
def anAdvise (g : MG) (p : Nat) : Int32 := (adv (pfO g p) (g 6) (wdF (plO g p)) (10 * nfO g)).1
theorem frP.w6 {g g1 : MG} (h : frP g g1) (k : Nat) (x : Int32) : frP (wr g 6 k x) (wr g1 6 k x) := by
  refine ⟨fun q h1 h2 => ?_, fun j hj => ?_⟩
  · by_cases hq : q = 6
    · subst hq; rw [wr_own, wr_own, h.1 6 (by omega) (by decide)]
    · rw [wr_row _ _ _ _ hq, wr_row _ _ _ _ hq]; exact h.1 q h1 h2
  · rw [wr_row _ _ _ _ (by decide), wr_row _ _ _ _ (by decide)]; exact h.2 j hj
theorem frP.back {g g3 : MG} {k : Nat} (h : frP (wr g 6 k (g 6 k + 1)) g3) : frP g (wr g3 6 k (g3 6 k - 1)) := by
  refine ⟨fun q h1 h2 => ?_, fun j hj => ?_⟩
  · by_cases hq : q = 6
    · subst hq
      rw [wr_own]
      funext j
      unfold upd
      have e6 : g3 6 = wr g 6 k (g 6 k + 1) 6 := h.1 6 (by omega) (by decide)
      by_cases hj : j = k
      · rw [if_pos hj, e6, wr_same, hj, Int32.add_sub_cancel]
      · rw [if_neg hj, e6, wr_ne _ _ _ _ (Or.inr hj)]
    · rw [wr_row _ _ _ _ hq, h.1 q h1 h2, wr_row _ _ _ _ hq]
  · rw [wr_row _ _ _ _ (by decide), h.2 j hj, wr_row _ _ _ _ (by decide)]
def cdAdvise (g : MG) (p : Int32) : Nat := if isN (npO g) p = false then 1 else 0
def outO (g : MG) (p f c : Nat) : Nat := outN (g 18) (tkO g) (wdO g) p f c (nlO g p)
def laO (g : MG) (p : Nat) : Nat → Int32
  | 0 => 400
  | k + 1 => if nI (outO g p (k / 10) (k % 10)) ≤ 0 then laO g p k else mn (laO g p k) (mx0 ((400 - g 8 k + nI (outO g p (k / 10) (k % 10)) - 1) / nI (outO g p (k / 10) (k % 10))))
def cdLasts (g : MG) (p : Int32) : Nat := if isN (npO g) p = false then 1 else if g 15 (iz p) = 0 then 2 else 0
