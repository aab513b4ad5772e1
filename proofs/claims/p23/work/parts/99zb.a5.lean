/-! THE LAW'S act: the shop after a poster, after a line -/
def sgP (n : Nat) : Nat → Nat := fun q => if q = 605 then 905 else if 700 + 20 * n ≤ q ∧ q < 705 + 20 * n then 900 + (q - (700 + 20 * n)) else q
theorem Cn_poster {N : Nat} {s m m1 : MG} {t h : Nat} (hE : LE N s) (hR : SimR s m) (hnp : npO s < 6) (hcd : cdPoster s (nI t) (nI h) = 0) (w0 : ∀ q, 600 < q → q < 900 → m1 q = m q) (w6 : (∀ j, j ≠ 6 → m1 600 j = m 600 j) ∧ m1 600 6 = nI 905)
    (w9 : m1 900 100000 = 5 ∧ m1 900 0 = nI t ∧ m1 900 1 = nI h ∧ m1 900 2 = nI 901 ∧ m1 900 3 = 0 ∧ m1 900 4 = 0 ∧ m1 900 5 = nI 902 ∧ m1 900 6 = nI 903 ∧ m1 900 7 = nI 904) (wl : isQ m1 2 901 0) (wf : isA m1 902 0) (wa : isA m1 903 0)
    (wq : isQ m1 4 905 (npO s + 1) ∧ (∀ i, i < npO s → m1 905 i = m 605 i) ∧ m1 905 (npO s) = nI 900) : Cn (stPoster s (nI t) (nI h)) m1 (sgP (npO s)) := by
  have hI := hE.1.1
  have es : ∀ z, z ≠ 12 → z ≠ 13 → z ≠ 0 → stPoster s (nI t) (nI h) z = s z := fun z z1 z2 z3 => by unfold stPoster; rw [if_pos hcd, wr_row _ _ _ _ z3, wr_row _ _ _ _ z2, wr_row _ _ _ _ z1]
  have e0 : ∀ j, j ≠ 2 → stPoster s (nI t) (nI h) 0 j = s 0 j := fun j hj => by unfold stPoster; rw [if_pos hcd, wr_ne _ _ _ _ (Or.inr hj), wr_row _ _ _ _ (by decide), wr_row _ _ _ _ (by decide)]
  have e2 : npO (stPoster s (nI t) (nI h)) = npO s + 1 := by
    show iz (stPoster s (nI t) (nI h) 0 2) = _
    unfold stPoster
    rw [if_pos hcd, wr_same]; exact iz_nI (by omega)
  have e12 : ∀ j, stPoster s (nI t) (nI h) 12 j = if j = npO s then nI t else s 12 j := fun j => by unfold stPoster; rw [if_pos hcd, wr_row _ _ _ _ (by decide), wr_row _ _ _ _ (by decide), wr_own]; rfl
  have e13 : ∀ j, stPoster s (nI t) (nI h) 13 j = if j = npO s then nI h else s 13 j := fun j => by unfold stPoster; rw [if_pos hcd, wr_row _ _ _ _ (by decide), wr_own]; unfold upd; rw [wr_row _ _ _ _ (by decide)]
  generalize stPoster s (nI t) (nI h) = s2 at *
  obtain ⟨y14, y15, y16⟩ := hE.1.2.2.2.1 (npO s) (Nat.le_refl _) hnp
  have hσ : ∀ q, q ≠ 605 → ¬ (700 + 20 * npO s ≤ q ∧ q < 705 + 20 * npO s) → sgP (npO s) q = q := fun q q1 q2 => by unfold sgP; rw [if_neg q1, if_neg q2]
  have h605 : sgP (npO s) 605 = 905 := if_pos rfl
  refine Cn_mk hI hR (fun q q1 q2 q3 => hσ q q2 (by omega)) (fun q q1 q2 _ _ _ => w0 q q1 (by omega)) (e0 1 (by decide)) (fun q q1 q2 => es q (by omega) (by omega) (by omega)) ?_ ⟨?_, fun u hu => ?_⟩ ⟨?_, fun q hq => ?_⟩ (fun q hq => ?_)
  · obtain ⟨a1, a2, a3, a4, a5, a6, a7, a8⟩ := hR.1
    rw [w6.1 _ (by decide), w6.1 _ (by decide), w6.1 _ (by decide), w6.1 _ (by decide), w6.1 _ (by decide), w6.1 _ (by decide), w6.1 _ (by decide), w6.2, h605, e0 3 (by decide), e0 4 (by decide)]
    exact ⟨a1, a2, a3, a4, a5, a6, a7, rfl⟩
  · unfold isQ; rw [w0 604 (by decide) (by decide)]; exact hR.2.2.2.2.1.1
  · rw [hσ (606 + u) (by omega) (by omega)]
    unfold isA
    rw [w0 604 (by decide) (by decide), w0 (606 + u) (by omega) (by omega), es 10 (by decide) (by decide) (by decide), es 11 (by decide) (by decide) (by decide)]
    exact hR.2.2.2.2.1.2 u hu
  · rw [h605, e2]; exact wq.1
  · rw [e2] at hq
    rw [h605]
    by_cases hqn : q = npO s
    · rw [hqn, wq.2.2]
      unfold sgP
      rw [if_neg (by omega), if_pos (by omega), Nat.sub_self]
    · rw [wq.2.1 q (by omega), hσ (700 + 20 * q) (by omega) (by omega)]
      exact hR.2.2.2.2.2.1.2 q (by omega)
  · rw [e2] at hq
    by_cases hqn : q = npO s
    · subst hqn
      have k : ∀ c, c < 5 → sgP (npO s) (700 + 20 * npO s + c) = 900 + c := fun c hc => by
        unfold sgP
        rw [if_neg (by omega), if_pos (by omega)]
        omega
      have k0 := k 0 (by decide)
      have k1 : sgP (npO s) (701 + 20 * npO s) = 901 := by rw [show 701 + 20 * npO s = 700 + 20 * npO s + 1 by omega]; exact k 1 (by decide)
      have k2 : sgP (npO s) (702 + 20 * npO s) = 902 := by rw [show 702 + 20 * npO s = 700 + 20 * npO s + 2 by omega]; exact k 2 (by decide)
      have k3 : sgP (npO s) (703 + 20 * npO s) = 903 := by rw [show 703 + 20 * npO s = 700 + 20 * npO s + 3 by omega]; exact k 3 (by decide)
      have k4 : sgP (npO s) (704 + 20 * npO s) = 904 := by rw [show 704 + 20 * npO s = 700 + 20 * npO s + 4 by omega]; exact k 4 (by decide)
      have k0 : sgP (npO s) (700 + 20 * npO s) = 900 := k0
      have enl : nlO s2 (npO s) = 0 := by unfold nlO; rw [es 14 (by decide) (by decide) (by decide), y14]; rfl
      have e15 : s2 15 (npO s) = 0 := by rw [es 15 (by decide) (by decide) (by decide)]; exact y15
      refine ⟨?_, ⟨?_, fun z hz => ?_⟩, ⟨0, by decide, ?_⟩, ⟨0, by decide, ?_, fun z => ?_⟩, fun z => ?_⟩
      · rw [k0, k1, k2, k3, k4, e12, e13, if_pos rfl, if_pos rfl, e15, es 16 (by decide) (by decide) (by decide), y16]
        exact w9
      · rw [k1, enl]; exact wl
      · rw [enl] at hz; exact absurd hz (Nat.not_lt_zero _)
      · rw [k2]; exact wf
      · rw [k3]; exact wa
      · rw [e15] at z; exact absurd z (by decide)
      · rw [e15] at z; exact absurd z (by decide)
    · have hq' : q < npO s := by omega
      exact CnP_c hI hR hq' (fun z z1 z2 => hσ z (by omega) (by omega)) (fun z z1 z2 => w0 z (by omega) (by omega)) ⟨by rw [e12, if_neg hqn], by rw [e13, if_neg hqn], by rw [es 14 (by decide) (by decide) (by decide)], by rw [es 15 (by decide) (by decide) (by decide)], by rw [es 16 (by decide) (by decide) (by decide)]⟩ (fun z _ => ⟨by rw [es 17 (by decide) (by decide) (by decide)], by rw [es 18 (by decide) (by decide) (by decide)], by rw [es 19 (by decide) (by decide) (by decide)], by rw [es 20 (by decide) (by decide) (by decide)]⟩)
theorem sgP_r {n : Nat} (hn : n < 6) (q : Nat) (h6 : 600 ≤ q) (h9 : q < 900) : 600 ≤ sgP n q ∧ sgP n q < 1200 := by
  unfold sgP
  split
  · omega
  · split <;> omega
theorem sgP_inj {n : Nat} (a b : Nat) (a9 : a < 900) (b9 : b < 900) (h : sgP n a = sgP n b) : a = b := by
  unfold sgP at h
  split at h <;> split at h <;> (try split at h) <;> (try split at h) <;> omega
def sgL (p n : Nat) : Nat → Nat := fun q => if q = 701 + 20 * p then 901 else if q = 705 + 20 * p + n then 900 else q
theorem sgL_r {p n : Nat} (q : Nat) (h6 : 600 ≤ q) (h9 : q < 900) : 600 ≤ sgL p n q ∧ sgL p n q < 1200 := by
  unfold sgL
  split
  · omega
  · split <;> omega
theorem sgL_inj {p n : Nat} (a b : Nat) (a9 : a < 900) (b9 : b < 900) (h : sgL p n a = sgL p n b) : a = b := by
  unfold sgL at h
  split at h <;> split at h <;> (try split at h) <;> (try split at h) <;> omega
theorem Cn_line {s m m1 : MG} {p w : Nat} (hI : IvM s) (hR : SimR s m) (hp : p < npO s) (hw : w ≤ 99999999) (hcd : cdLine s (nI p) (nI w) = 0) (h15 : ¬ s 15 p = 1) (hn4 : nlO s p < 4) (w0 : ∀ q, 600 ≤ q → q < 900 → q ≠ 700 + 20 * p → m1 q = m q) (wp : (∀ j, j ≠ 2 → m1 (700 + 20 * p) j = m (700 + 20 * p) j) ∧ m1 (700 + 20 * p) 2 = nI 901)
    (wq : isQ m1 2 901 (nlO s p + 1) ∧ (∀ i, i < nlO s p → m1 901 i = m (701 + 20 * p) i) ∧ m1 901 (nlO s p) = nI 900) (wL : LtR m1 900 (szw w) w) : Cn (stLine s (nI p) (nI w)) m1 (sgL p (nlO s p)) := by
  have hp6 := (IvM_np hI).1
  have ep : iz (nI p) = p := iz_nI (by omega)
  have es : ∀ z, z ≠ 17 → z ≠ 14 → stLine s (nI p) (nI w) z = s z := fun z z1 z2 => by unfold stLine; rw [if_pos hcd, wr_row _ _ _ _ z2, wr_row _ _ _ _ z1]
  have e17 : ∀ j, stLine s (nI p) (nI w) 17 j = if j = 4 * p + nlO s p then nI w else s 17 j := fun j => by unfold stLine; rw [if_pos hcd, ep, wr_row _ _ _ _ (by decide), wr_own]; rfl
  have e14 : ∀ q, stLine s (nI p) (nI w) 14 q = if q = p then nI (nlO s p + 1) else s 14 q := fun q => by unfold stLine; rw [if_pos hcd, ep, wr_own]; unfold upd; rw [wr_row _ _ _ _ (by decide)]
  generalize stLine s (nI p) (nI w) = s2 at *
  have e0 : s2 0 = s 0 := es 0 (by decide) (by decide)
  have enp : npO s2 = npO s := by unfold npO; rw [e0]
  have hσ : ∀ q, q ≠ 701 + 20 * p → q ≠ 705 + 20 * p + nlO s p → sgL p (nlO s p) q = q := fun q q1 q2 => by unfold sgL; rw [if_neg q1, if_neg q2]
  refine Cn_mk hI hR (fun q q1 q2 q3 => hσ q (by omega) (by omega)) (fun q q1 q2 _ _ _ => w0 q (by omega) (by omega) (by omega)) (by rw [e0]) (fun q q1 q2 => es q (by omega) (by omega)) ?_ ⟨?_, fun u hu => ?_⟩ ⟨?_, fun q hq => ?_⟩ (fun q hq => ?_)
  · rw [w0 600 (by decide) (by decide) (by omega), hσ 605 (by omega) (by omega), e0]; exact hR.1
  · unfold isQ; rw [w0 604 (by decide) (by decide) (by omega)]; exact hR.2.2.2.2.1.1
  · rw [hσ (606 + u) (by omega) (by omega)]
    unfold isA
    rw [w0 604 (by decide) (by decide) (by omega), w0 (606 + u) (by omega) (by omega) (by omega), es 10 (by decide) (by decide), es 11 (by decide) (by decide)]
    exact hR.2.2.2.2.1.2 u hu
  · rw [hσ 605 (by omega) (by omega), enp]; unfold isQ; rw [w0 605 (by decide) (by decide) (by omega)]; exact hR.2.2.2.2.2.1.1
  · rw [enp] at hq
    rw [hσ 605 (by omega) (by omega), w0 605 (by decide) (by decide) (by omega), hσ (700 + 20 * q) (by omega) (by omega)]
    exact hR.2.2.2.2.2.1.2 q hq
  · rw [enp] at hq
    by_cases hqp : q = p
    · subst hqp
      obtain ⟨g1, g2, ⟨n1, n12, n13⟩, ⟨n2, n22, n23, n24⟩, -, -⟩ := hR.L hq
      have k0 := hσ (700 + 20 * q) (by omega) (by omega)
      have k1 : sgL q (nlO s q) (701 + 20 * q) = 901 := if_pos rfl
      have k2 := hσ (702 + 20 * q) (by omega) (by omega)
      have k3 := hσ (703 + 20 * q) (by omega) (by omega)
      have k4 := hσ (704 + 20 * q) (by omega) (by omega)
      have enl : nlO s2 q = nlO s q + 1 := by unfold nlO; rw [e14, if_pos rfl]; exact iz_nI (by omega)
      have e15 : s2 15 q = s 15 q := by rw [es 15 (by decide) (by decide)]
      refine ⟨?_, ⟨?_, fun z hz => ?_⟩, ⟨n1, n12, ?_⟩, ⟨n2, n22, ?_, fun z => ?_⟩, fun z => ?_⟩
      · obtain ⟨b1, b2, b3, b4, b5, b6, b7, b8, b9⟩ := g1
        rw [k0, k1, k2, k3, k4, wp.2, wp.1 _ (by decide), wp.1 _ (by decide), wp.1 _ (by decide), wp.1 _ (by decide), wp.1 _ (by decide), wp.1 _ (by decide), wp.1 _ (by decide), wp.1 _ (by decide), es 12 (by decide) (by decide), es 13 (by decide) (by decide), e15, es 16 (by decide) (by decide)]
        exact ⟨b1, b2, b3, rfl, b5, b6, b7, b8, b9⟩
      · rw [k1, enl]; exact wq.1
      · rw [enl] at hz
        by_cases hzn : z = nlO s q
        · subst hzn
          have k5 : sgL q (nlO s q) (705 + 20 * q + nlO s q) = 900 := by unfold sgL; rw [if_neg (by omega), if_pos rfl]
          have ew : wdO s2 (4 * q + nlO s q) = w := by unfold wdO; rw [e17, if_pos rfl]; exact iz_nI (by omega)
          rw [k1, k5, ew]
          exact ⟨wq.2.2, wL⟩
        · have k5 := hσ (705 + 20 * q + z) (by omega) (by omega)
          have ew : wdO s2 (4 * q + z) = wdO s (4 * q + z) := by unfold wdO; rw [e17, if_neg (by omega)]
          rw [k1, k5, ew, wq.2.1 z (by omega)]
          exact ⟨(g2.2 z (by omega)).1, LtR.c (g2.2 z (by omega)).2 (w0 _ (by omega) (by omega) (by omega))⟩
      · unfold isA; rw [k2, w0 (702 + 20 * q) (by omega) (by omega) (by omega)]; exact n13
      · unfold isA; rw [k3, w0 (703 + 20 * q) (by omega) (by omega) (by omega)]; exact n23
      · rw [e15] at z; exact absurd z h15
      · rw [e15] at z; exact absurd z h15
    · have hq4 := (IvM_nl hI (show q < 6 by omega)).2
      exact CnP_c hI hR hq (fun z z1 z2 => hσ z (by omega) (by omega)) (fun z z1 z2 => w0 z (by omega) (by omega) (by omega)) ⟨by rw [es 12 (by decide) (by decide)], by rw [es 13 (by decide) (by decide)], by rw [e14, if_neg hqp], by rw [es 15 (by decide) (by decide)], by rw [es 16 (by decide) (by decide)]⟩ (fun z hz => ⟨by rw [e17, if_neg (by omega)], by rw [es 18 (by decide) (by decide)], by rw [es 19 (by decide) (by decide)], by rw [es 20 (by decide) (by decide)]⟩)
