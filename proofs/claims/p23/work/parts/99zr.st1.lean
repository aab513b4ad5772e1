/-! THE FIRST WORLD -/
def g00 : MG := fun k => if k = 9 ∨ k = 33 then flF (fun _ => 0) (-1) 10 else if k = 10 ∨ k = 34 then flF (fun _ => 0) 3 4 else if k = 11 ∨ k = 35 then flF (fun _ => 0) 5 4 else if 200 ≤ k ∧ k < 500 then (fun _ => -1) else fun _ => 0
def ad00 (q30 : Nat) (b : Nat → Nat) : Nat → Nat := fun k => if k = 30 then q30 else b k
def w00 (Z : Zc) (q30 : Nat) (b : Nat → Nat) : va_W := [(b 35, .inl (Z.Y.1, 4, .inl (flF (fun _ => 0) 5 4))), (b 34, .inl (Z.Y.1, 4, .inl (flF (fun _ => 0) 3 4))), (b 33, .inl (Z.Y.1, 10, .inl (flF (fun _ => 0) (-1) 10))), (b 32, .inr (0, [.int 0, .ref Z.df, .int 0])), (b 31, .inr (0, [.int 0, .ref Z.df, .int 0])), (q30, .inr (4, [.ref (b 31), .ref (b 32), .ref (b 33), .ref (b 34), .ref (b 35), .int 0, .int 0]))]
def m00 : MG := fun _ _ => 0
theorem w00_at (Z : Zc) (q30 : Nat) (b : Nat → Nat) (k : Nat) (h1 : 30 ≤ k) (h2 : k < 36) : ∃ e, cx Z.Y (ad00 q30 b) Z.df g00 k = some e ∧ (w00 Z q30 b)[35 - k]? = some (ad00 q30 b k, e) := by
  rcases (show k = 30 ∨ k = 31 ∨ k = 32 ∨ k = 33 ∨ k = 34 ∨ k = 35 by omega) with rfl | rfl | rfl | rfl | rfl | rfl
  · exact ⟨_, rfl, rfl⟩
  · exact ⟨.inr (0, [.int 0, .ref Z.df, .int 0]), rfl, rfl⟩
  · exact ⟨.inr (0, [.int 0, .ref Z.df, .int 0]), rfl, rfl⟩
  · exact ⟨_, rfl, rfl⟩
  · exact ⟨_, rfl, rfl⟩
  · exact ⟨_, rfl, rfl⟩
theorem k00_no {Y : Yc} {ad : Nat → Nat} {df k : Nat} (hY : Y.m = m00) (h : cx Y ad df g00 k ≠ none) : 30 ≤ k ∧ k < 36 := by
  have z1 : iz (g00 31 2) = 0 := by decide
  have z2 : iz (g00 32 2) = 0 := by decide
  have c1 : g00 31 2 = 0 := by decide
  have c2 : g00 32 2 = 0 := by decide
  by_cases h1 : k < 30
  · exact absurd (show cx Y ad df g00 k = none from cS_1 h1) h
  by_cases h2 : (37 < k ∧ k < 40) ∨ (90 ≤ k ∧ k < 100) ∨ (160 ≤ k ∧ k < 200) ∨ (440 ≤ k ∧ k < 600) ∨ 1200 ≤ k
  · exact absurd (show cx Y ad df g00 k = none from cS_no h2) h
  by_cases h3 : k = 36
  · subst h3
    exact absurd (show cx Y ad df g00 36 = none by unfold cx; rw [cS_36, c1]; rfl) h
  by_cases h4 : k = 37
  · subst h4
    exact absurd (show cx Y ad df g00 37 = none by unfold cx; rw [cS_37, c2]; rfl) h
  by_cases h5 : 40 ≤ k ∧ k < 90
  · exact absurd (show cx Y ad df g00 k = none by unfold cx; rw [cS_f h5, z1, if_neg (Nat.not_lt_zero _)]) h
  by_cases h6 : 100 ≤ k ∧ k < 160
  · exact absurd (show cx Y ad df g00 k = none by unfold cx; rw [cS_p h6, z2, if_neg (Nat.not_lt_zero _)]) h
  by_cases h7 : 200 ≤ k ∧ k < 440
  · exact absurd (show cx Y ad df g00 k = none by unfold cx; rw [cS_l h7, z2, if_neg (fun q => Nat.not_lt_zero _ q.1)]) h
  by_cases h8 : 600 ≤ k ∧ k < 1200
  · exact absurd (show cx Y ad df g00 k = none by rw [cx_law h8, hY]; rfl) h
  omega
theorem g00_w : Wf g00 := by
  refine ⟨⟨0, by decide, by decide, fun j hj => Or.inl ?_⟩, ⟨0, by decide, by decide⟩, fun p hp => ⟨0, by decide, ?_⟩⟩
  · unfold g00
    rw [if_neg (by omega), if_neg (by omega), if_neg (by omega), if_pos (by omega)]
  · unfold g00
    rw [if_neg (by omega), if_neg (by omega), if_neg (by omega), if_neg (by omega)]
    rfl
theorem Hw_first {Z : Zc} {q30 : Nat} {b : Nat → Nat} {H : Heap} (hY : Z.Y.m = m00) (hP : va_P Z.D vwCl (w00 Z q30 b) H) (hD : va_D (A0 Z.z) (w00 Z q30 b)) : HwZ (Z.wa (ad00 q30 b)) g00 H := by
  refine ⟨fun k e hk => ?_, fun k k' h1 h2 he => ?_, g00_w⟩
  · obtain ⟨k1, k2⟩ := k00_no (Y := Z.Y) (ad := ad00 q30 b) (df := Z.df) (k := k) hY (fun z => Option.some_ne_none e (hk.symm.trans z))
    obtain ⟨e', h1, h2⟩ := w00_at Z q30 b k k1 k2
    cases (show some e' = some e from h1.symm.trans hk)
    exact ⟨hP _ _ h2, hD.2 _ _ h2⟩
  · obtain ⟨k1, k2⟩ := k00_no (Y := Z.Y) (ad := ad00 q30 b) (df := Z.df) (k := k) hY h1
    obtain ⟨j1, j2⟩ := k00_no (Y := Z.Y) (ad := ad00 q30 b) (df := Z.df) (k := k') hY h2
    obtain ⟨e1, -, w1⟩ := w00_at Z q30 b k k1 k2
    obtain ⟨e2, -, w2⟩ := w00_at Z q30 b k' j1 j2
    have hij := hD.1 _ _ _ _ w1 w2 he
    omega
theorem g00_r {k : Nat} (h1 : k ≠ 9 ∧ k ≠ 33) (h2 : k ≠ 10 ∧ k ≠ 34) (h3 : k ≠ 11 ∧ k ≠ 35) (h4 : ¬ (200 ≤ k ∧ k < 500)) : g00 k = fun _ => 0 := by
  unfold g00
  rw [if_neg (by omega), if_neg (by omega), if_neg (by omega), if_neg h4]
theorem LI00 : LI 0 g00 := by
  refine ⟨⟨⟨0, by decide, by decide⟩, ⟨0, by decide, by decide⟩, fun l hl => Or.inl ?_, fun p hp => ⟨0, by decide, rfl⟩, fun p hp => ⟨0, by decide, rfl⟩, fun p hp => Or.inl rfl, fun j hj => ⟨0, by decide, rfl⟩, fun p k hp h => ?_⟩, fun p k hp => ?_, fun j h1 h2 => ⟨rfl, rfl, rfl⟩, fun p hp h6 => ⟨rfl, rfl, rfl⟩, by decide, fun j hj => ?_⟩
  · show flF (fun _ => 0) (-1) 10 l = -1
    unfold flF
    rw [if_pos hl]
  · exact absurd (show (0 : Int32) = 1 from h) (by decide)
  · exact absurd (show p < npO g00 from hp) (by rw [show npO g00 = 0 by decide]; exact Nat.not_lt_zero _)
  · rw [g00_r (k := 6) (by decide) (by decide) (by decide) (by decide), g00_r (k := 7) (by decide) (by decide) (by decide) (by decide), g00_r (k := 8) (by decide) (by decide) (by decide) (by decide)]
    exact (by decide : (-(40 * ((0 : Nat) : Int)) ≤ (0 : Int32).toInt ∧ (0 : Int32).toInt ≤ 40 * ((0 : Nat) : Int)) ∧ (0 : Int32).toInt ≤ (0 : Int32).toInt ∧ (0 : Int32).toInt ≤ 9 ∧ 0 ≤ (0 : Int32).toInt ∧ (0 : Int32).toInt ≤ 16000 * ((0 : Nat) : Int))
theorem Rl00 : Rl g00 g00 := by
  refine ⟨⟨rfl, rfl, rfl, rfl, fun j hj => rfl, fun j hj => rfl, fun j hj => rfl⟩, fun i hi => ?_, fun p hp => ?_⟩
  · exact absurd (show i < nfO g00 from hi) (by rw [show nfO g00 = 0 by decide]; exact Nat.not_lt_zero _)
  · exact absurd (show p < npO g00 from hp) (by rw [show npO g00 = 0 by decide]; exact Nat.not_lt_zero _)
theorem g00_np : npO g00 = 0 := by decide
theorem g00_nf : nfO g00 = 0 := by decide
theorem g00_t {u : Nat} (hu : u < 4) : g00 10 u = 3 ∧ g00 11 u = 5 := by
  refine ⟨?_, ?_⟩
  · show flF (fun _ => 0) 3 4 u = 3
    unfold flF; rw [if_pos hu]
  · show flF (fun _ => 0) 5 4 u = 5
    unfold flF; rw [if_pos hu]
theorem LE00 : LE 0 g00 := by
  refine ⟨LI00, ⟨fun p q hp => ?_, fun x hx => ?_, fun f hf => ?_, fun t ht => ?_⟩, by decide, by decide⟩
  · rw [g00_np] at hp; exact absurd hp (Nat.not_lt_zero _)
  · rw [g00_np]; exact rfl
  · rw [g00_nf] at hf; exact absurd hf (Nat.not_lt_zero _)
  · rw [(g00_t ht).1, (g00_t ht).2]; decide
theorem Fr00 : Fr m00 600 := ⟨by decide, fun _ _ => rfl, fun k k1 k2 => absurd k1 (by omega)⟩
theorem vx_first {P : Pm} {R : Room} {Z : Zc} {lo : Lo} {pc : Nat} {cs sl : Nat} {q30 : Nat} {b : Nat → Nat} {st : List Value} (hY : Z.Y.m = m00) (kk : V P R (Z.wa (ad00 q30 b)) lo pc st g00 cs sl) : VX P R Z (A0 Z.z) (w00 Z q30 b) lo pc st cs sl := by
  obtain ⟨p, l, e, s, m, args, below, meth, c, Q, nL⟩ := P
  exact fun ls H locs hl hP hD hS => kk ls H locs hl (Hw_first hY hP hD) hS
