/-! THE FIRST WORLD -/
def g00 : MG := fun k => if k = 9 ∨ k = 33 then flF (fun _ => 0) (-1) 10 else if k = 10 ∨ k = 34 then flF (fun _ => 0) 3 4 else if k = 11 ∨ k = 35 then flF (fun _ => 0) 5 4 else if 200 ≤ k ∧ k < 500 then (fun _ => -1) else fun _ => 0
def ad00 (q0 q30 q5 : Nat) (b b' : Nat → Nat) : Nat → Nat := fun k => if k = 0 then q0 else if k < 26 then b' k else if k = 30 then q30 else if k = 500 then q5 else b k
def w00 (Z : Zc) (q0 q30 q5 : Nat) (b b' : Nat → Nat) : va_W := (q5, .inl (Z.Y.2.2, 1, .inr (.inl (fun _ => (0 : Int32).toInt64)))) :: (b' 25, .inl (Z.Y.1, 10, .inl (fun _ => 0))) :: (b' 24, .inl (Z.Y.1, 4, .inl (fun _ => 0))) :: (b' 23, .inl (Z.Y.1, 4, .inl (fun _ => 0))) :: (b' 22, .inl (Z.Y.1, 4, .inl (fun _ => 0))) :: (b' 21, .inl (Z.Y.1, 50, .inl (fun _ => 0))) :: (b' 20, .inl (Z.Y.1, 24, .inl (fun _ => 0))) :: (b' 19, .inl (Z.Y.1, 24, .inl (fun _ => 0))) :: (b' 18, .inl (Z.Y.1, 24, .inl (fun _ => 0))) :: (b' 17, .inl (Z.Y.1, 24, .inl (fun _ => 0))) :: (b' 16, .inl (Z.Y.1, 6, .inl (fun _ => 0))) :: (b' 15, .inl (Z.Y.1, 6, .inl (fun _ => 0))) :: (b' 14, .inl (Z.Y.1, 6, .inl (fun _ => 0))) :: (b' 13, .inl (Z.Y.1, 6, .inl (fun _ => 0))) :: (b' 12, .inl (Z.Y.1, 6, .inl (fun _ => 0))) :: (b' 11, .inl (Z.Y.1, 4, .inl (flF (fun _ => 0) 5 4))) :: (b' 10, .inl (Z.Y.1, 4, .inl (flF (fun _ => 0) 3 4))) :: (b' 9, .inl (Z.Y.1, 10, .inl (flF (fun _ => 0) (-1) 10))) :: (b' 8, .inl (Z.Y.1, 50, .inl (fun _ => 0))) :: (b' 7, .inl (Z.Y.1, 50, .inl (fun _ => 0))) :: (b' 6, .inl (Z.Y.1, 50, .inl (fun _ => 0))) :: (b' 5, .inl (Z.Y.1, 5, .inl (fun _ => 0))) :: (q0, .inr (5, [.int 0, .int 0, .int 0, .int 0, .int 0, .ref (b' 5), .ref (b' 6), .ref (b' 7), .ref (b' 8), .ref (b' 9), .ref (b' 10), .ref (b' 11), .ref (b' 12), .ref (b' 13), .ref (b' 14), .ref (b' 15), .ref (b' 16), .ref (b' 17), .ref (b' 18), .ref (b' 19), .ref (b' 20), .ref (b' 21), .ref (b' 22), .ref (b' 23), .ref (b' 24), .ref (b' 25), .int 0])) :: (b 35, .inl (Z.Y.1, 4, .inl (flF (fun _ => 0) 5 4))) :: (b 34, .inl (Z.Y.1, 4, .inl (flF (fun _ => 0) 3 4))) :: (b 33, .inl (Z.Y.1, 10, .inl (flF (fun _ => 0) (-1) 10))) :: (b 32, .inr (0, [.int 0, .ref Z.df, .int 0])) :: (b 31, .inr (0, [.int 0, .ref Z.df, .int 0])) :: (q30, .inr (4, [.ref (b 31), .ref (b 32), .ref (b 33), .ref (b 34), .ref (b 35), .int 0, .int 0])) :: []
def kL00 : List Nat := [500, 25, 24, 23, 22, 21, 20, 19, 18, 17, 16, 15, 14, 13, 12, 11, 10, 9, 8, 7, 6, 5, 0, 35, 34, 33, 32, 31, 30]
set_option maxRecDepth 100000 in
theorem w00_at (Z : Zc) (q0 q30 q5 : Nat) (b b' : Nat → Nat) (i k : Nat) (h : kL00[i]? = some k) : ∃ e, cx Z.Y (ad00 q0 q30 q5 b b') Z.df g00 k = some e ∧ (w00 Z q0 q30 q5 b b')[i]? = some (ad00 q0 q30 q5 b b' k, e) := by
  match i, h with
  | 0, h => cases h; exact ⟨_, rfl, rfl⟩
  | 1, h => cases h; exact ⟨_, rfl, rfl⟩
  | 2, h => cases h; exact ⟨_, rfl, rfl⟩
  | 3, h => cases h; exact ⟨_, rfl, rfl⟩
  | 4, h => cases h; exact ⟨_, rfl, rfl⟩
  | 5, h => cases h; exact ⟨_, rfl, rfl⟩
  | 6, h => cases h; exact ⟨_, rfl, rfl⟩
  | 7, h => cases h; exact ⟨_, rfl, rfl⟩
  | 8, h => cases h; exact ⟨_, rfl, rfl⟩
  | 9, h => cases h; exact ⟨_, rfl, rfl⟩
  | 10, h => cases h; exact ⟨_, rfl, rfl⟩
  | 11, h => cases h; exact ⟨_, rfl, rfl⟩
  | 12, h => cases h; exact ⟨_, rfl, rfl⟩
  | 13, h => cases h; exact ⟨_, rfl, rfl⟩
  | 14, h => cases h; exact ⟨_, rfl, rfl⟩
  | 15, h => cases h; exact ⟨_, rfl, rfl⟩
  | 16, h => cases h; exact ⟨_, rfl, rfl⟩
  | 17, h => cases h; exact ⟨_, rfl, rfl⟩
  | 18, h => cases h; exact ⟨_, rfl, rfl⟩
  | 19, h => cases h; exact ⟨_, rfl, rfl⟩
  | 20, h => cases h; exact ⟨_, rfl, rfl⟩
  | 21, h => cases h; exact ⟨_, rfl, rfl⟩
  | 22, h => cases h; exact ⟨_, rfl, rfl⟩
  | 23, h => cases h; exact ⟨_, rfl, rfl⟩
  | 24, h => cases h; exact ⟨_, rfl, rfl⟩
  | 25, h => cases h; exact ⟨_, rfl, rfl⟩
  | 26, h => cases h; exact ⟨.inr (0, [.int 0, .ref Z.df, .int 0]), rfl, rfl⟩
  | 27, h => cases h; exact ⟨.inr (0, [.int 0, .ref Z.df, .int 0]), rfl, rfl⟩
  | 28, h => cases h; exact ⟨_, rfl, rfl⟩
  | i + 29, h => cases h
theorem k00_at (k : Nat) (h : k = 0 ∨ (5 ≤ k ∧ k < 26) ∨ (30 ≤ k ∧ k < 36) ∨ k = 500) : ∃ i : Nat, kL00[i]? = some k := by
  rcases h with rfl | h | h | rfl
  · exact ⟨22, rfl⟩
  · exact ⟨26 - k, (by decide : ∀ k, k < 26 → 5 ≤ k → kL00[26 - k]? = some k) k h.2 h.1⟩
  · exact ⟨58 - k, (by decide : ∀ k, k < 36 → 30 ≤ k → kL00[58 - k]? = some k) k h.2 h.1⟩
  · exact ⟨0, rfl⟩
theorem k00_no {Y : Yc} {ad : Nat → Nat} {df k : Nat} (h : cx Y ad df g00 k ≠ none) : k = 0 ∨ (5 ≤ k ∧ k < 26) ∨ (30 ≤ k ∧ k < 36) ∨ k = 500 := by
  have z1 : iz (g00 31 2) = 0 := by decide
  have z2 : iz (g00 32 2) = 0 := by decide
  have c1 : g00 31 2 = 0 := by decide
  have c2 : g00 32 2 = 0 := by decide
  by_cases h1 : (0 < k ∧ k < 5) ∨ (26 ≤ k ∧ k < 30)
  · exact absurd (show cx Y ad df g00 k = none from cS_1 h1) h
  by_cases h2 : (37 < k ∧ k < 40) ∨ (90 ≤ k ∧ k < 100) ∨ (160 ≤ k ∧ k < 200) ∨ (440 ≤ k ∧ k ≠ 500)
  · exact absurd (show cx Y ad df g00 k = none from cS_no h2) h
  by_cases h3 : k = 36
  · subst h3
    exact absurd (show cx Y ad df g00 36 = none by unfold cx; rw [cS_36, c1]; rfl) h
  by_cases h4 : k = 37
  · subst h4
    exact absurd (show cx Y ad df g00 37 = none by unfold cx; rw [cS_37, c2]; rfl) h
  by_cases h5 : 40 ≤ k ∧ k < 90
  · exact absurd (show cx Y ad df g00 k = none by unfold cx; rw [cS_f h5, z1, if_neg (Nat.not_lt_zero _)]) h
  by_cases h6 : 100 ≤ k ∧ k < 160
  · exact absurd (show cx Y ad df g00 k = none by unfold cx; rw [cS_p h6, z2, if_neg (Nat.not_lt_zero _)]) h
  by_cases h7 : 200 ≤ k ∧ k < 440
  · exact absurd (show cx Y ad df g00 k = none by unfold cx; rw [cS_l h7, z2, if_neg (fun q => Nat.not_lt_zero _ q.1)]) h
  omega
theorem g00_w : Wf g00 := by
  refine ⟨⟨0, by decide, by decide, fun j hj => Or.inl ?_⟩, ⟨0, by decide, by decide⟩, fun p hp => ⟨0, by decide, ?_⟩⟩
  · unfold g00
    rw [if_neg (by omega), if_neg (by omega), if_neg (by omega), if_pos (by omega)]
  · unfold g00
    rw [if_neg (by omega), if_neg (by omega), if_neg (by omega), if_neg (by omega)]
    rfl
theorem Hw_first {Z : Zc} {q0 q30 q5 : Nat} {b b' : Nat → Nat} {H : Heap} (hP : va_P Z.D vwCl (w00 Z q0 q30 q5 b b') H) (hD : va_D (A0 Z.z) (w00 Z q0 q30 q5 b b')) : HwZ (Z.wa (ad00 q0 q30 q5 b b')) g00 H := by
  refine ⟨fun k e hk => ?_, fun k k' h1 h2 he => ?_, g00_w⟩
  · obtain ⟨i, hi⟩ := k00_at k (k00_no (by rw [hk]; exact Option.some_ne_none e))
    obtain ⟨e', h1, h2⟩ := w00_at Z q0 q30 q5 b b' i k hi
    cases (show some e' = some e from h1.symm.trans hk)
    exact ⟨hP i _ h2, hD.2 i _ h2⟩
  · obtain ⟨i, hi⟩ := k00_at k (k00_no h1)
    obtain ⟨j, hj⟩ := k00_at k' (k00_no h2)
    obtain ⟨e1, -, w1⟩ := w00_at Z q0 q30 q5 b b' i k hi
    obtain ⟨e2, -, w2⟩ := w00_at Z q0 q30 q5 b b' j k' hj
    have hij := hD.1 i j _ _ w1 w2 he
    subst hij
    exact Option.some.inj (hi.symm.trans hj)
theorem g00_r {k : Nat} (h1 : k ≠ 9 ∧ k ≠ 33) (h2 : k ≠ 10 ∧ k ≠ 34) (h3 : k ≠ 11 ∧ k ≠ 35) (h4 : ¬ (200 ≤ k ∧ k < 500)) : g00 k = fun _ => 0 := by
  unfold g00
  rw [if_neg (by omega), if_neg (by omega), if_neg (by omega), if_neg h4]
theorem LI00 : LI 0 g00 := by
  refine ⟨⟨⟨0, by decide, by decide⟩, ⟨0, by decide, by decide⟩, fun l hl => Or.inl ?_, fun p hp => ⟨0, by decide, rfl⟩, fun p hp => ⟨0, by decide, rfl⟩, fun p hp => Or.inl rfl, fun j hj => ⟨0, by decide, rfl⟩, fun p k hp h => ?_⟩, fun p k hp => ?_, fun j h1 h2 => ⟨rfl, rfl, rfl⟩, fun p hp h6 => ⟨rfl, rfl, rfl⟩, by decide, fun j hj => ?_⟩
  · show flF (fun _ => 0) (-1) 10 l = -1
    unfold flF
    rw [if_pos hl]
  · exact absurd (show (0 : Int32) = 1 from h) (by decide)
  · exact absurd (show p < npO g00 from hp) (by rw [show npO g00 = 0 by decide]; exact Nat.not_lt_zero _)
  · rw [g00_r (k := 6) (by decide) (by decide) (by decide) (by decide), g00_r (k := 7) (by decide) (by decide) (by decide) (by decide), g00_r (k := 8) (by decide) (by decide) (by decide) (by decide)]
    exact (by decide : (-(40 * ((0 : Nat) : Int)) ≤ (0 : Int32).toInt ∧ (0 : Int32).toInt ≤ 40 * ((0 : Nat) : Int)) ∧ (0 : Int32).toInt ≤ (0 : Int32).toInt ∧ (0 : Int32).toInt ≤ 9 ∧ 0 ≤ (0 : Int32).toInt ∧ (0 : Int32).toInt ≤ 16000 * ((0 : Nat) : Int))
theorem Rl00 : Rl g00 g00 := by
  refine ⟨⟨rfl, rfl, rfl, rfl, fun j hj => rfl, fun j hj => rfl, fun j hj => rfl⟩, fun i hi => ?_, fun p hp => ?_⟩
  · exact absurd (show i < nfO g00 from hi) (by rw [show nfO g00 = 0 by decide]; exact Nat.not_lt_zero _)
  · exact absurd (show p < npO g00 from hp) (by rw [show npO g00 = 0 by decide]; exact Nat.not_lt_zero _)
