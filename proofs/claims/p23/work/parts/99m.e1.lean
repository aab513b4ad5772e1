/-! WHAT THE LAW ASKS BESIDES: how many letters of a line are another's; its fount is high enough -/
/-- at how many of the last m places two words differ -/
def dfD (w t : Nat) : Nat → Nat
  | 0 => 0
  | m + 1 => dfD w t m + (if w / 10 ^ m % 10 = t / 10 ^ m % 10 then 0 else 1)
theorem dfD_le (w t : Nat) : ∀ m, dfD w t m ≤ m := by
  intro m
  induction m with
  | zero => exact Nat.le_refl 0
  | succ m ih => rw [dfD]; split <;> omega
theorem dfD_push (a b d e : Nat) (hd : d < 10) (he : e < 10) : ∀ m, dfD (10 * a + d) (10 * b + e) (m + 1) = dfD a b m + (if d = e then 0 else 1) := by
  have up : ∀ x y m : Nat, y < 10 → (10 * x + y) / 10 ^ (m + 1) = x / 10 ^ m := fun x y m hy => by
    rw [Nat.pow_succ, Nat.mul_comm (10 ^ m) 10, ← Nat.div_div_eq_div_mul, show (10 * x + y) / 10 = x by omega]
  intro m
  induction m with
  | zero =>
    show 0 + (if (10 * a + d) / 10 ^ 0 % 10 = (10 * b + e) / 10 ^ 0 % 10 then 0 else 1) = 0 + (if d = e then 0 else 1)
    rw [Nat.pow_zero, Nat.div_one, Nat.div_one, show (10 * a + d) % 10 = d by omega, show (10 * b + e) % 10 = e by omega]
  | succ m ih =>
    rw [dfD, ih, show dfD a b (m + 1) = dfD a b m + (if a / 10 ^ m % 10 = b / 10 ^ m % 10 then 0 else 1) from rfl, up a d m hd, up b e m he]
    omega
/-- a line's try after m letters: what it takes differs from the letters a so far as often as it has flaws -/
def TSD (m a : Nat) (s : TS) : Prop := ∃ t, t < 10 ^ m ∧ s.2.2 = nI t ∧ s.2.1 = nI (dfD a t m)
theorem TSD_step {ok : Nat → Int32 → Bool} {ot : Nat → Int32} (hot : otI ot) {m a d : Nat} {s s' : TS} (h : TSD m a s) (hd : d < 10) (he : tl1 ok ot s d = some s') : TSD (m + 1) (10 * a + d) s' := by
  obtain ⟨t, ht, hw, hf⟩ := h
  unfold tl1 at he
  split at he
  · cases he
    refine ⟨10 * t + d, by rw [Nat.pow_succ]; omega, by show 10 * s.2.2 + nI d = _; rw [hw]; exact nI_10 t d, ?_⟩
    show s.2.1 = _
    rw [hf, dfD_push _ _ _ _ hd hd, if_pos rfl, Nat.add_zero]
  · split at he
    · cases he
    · next hne =>
      obtain ⟨o, ho, hod, hoe⟩ := (hot d hd).resolve_left hne
      split at he
      · cases he
        refine ⟨10 * t + o, by rw [Nat.pow_succ]; omega, by show 10 * s.2.2 + ot d = _; rw [hw, hoe]; exact nI_10 t o, ?_⟩
        show s.2.1 + 1 = _
        rw [hf, dfD_push _ _ _ _ hd ho, if_neg (fun z => hod z.symm), nI_1]
      · cases he
theorem TSD_run {ok : Nat → Int32 → Bool} {ot : Nat → Int32} (hot : otI ot) (w : Nat) : ∀ (n m : Nat) (s s' : TS), TSD m (w / 10 ^ n) s → tlR ok ot w n s = some s' → TSD (m + n) w s' := by
  intro n
  induction n with
  | zero => intro m s s' h he; cases he; rw [Nat.pow_zero, Nat.div_one] at h; exact h
  | succ n ih =>
    intro m s s' h he
    unfold tlR at he
    cases hc : tl1 ok ot s (w / 10 ^ n % 10) with
    | none => rw [hc] at he; cases he
    | some s1 =>
      rw [hc] at he
      have h1 := TSD_step hot h (Nat.mod_lt _ (by decide)) hc
      rw [show 10 * (w / 10 ^ (n + 1)) + w / 10 ^ n % 10 = w / 10 ^ n by rw [Nat.pow_succ, ← Nat.div_div_eq_div_mul]; omega] at h1
      have h2 := ih (m + 1) s1 s' h1 he
      rw [show m + 1 + n = m + (n + 1) by omega] at h2
      exact h2
theorem pl1_TSD {okf : OK} {ot ht : Nat → Int32} {tall : Int32} {nf : Nat} (hot : otI ot) {mo : Nat → Int32} {w : Nat} {q : Nat × TS} (h : pl1 okf ot ht tall nf mo w = some q) : TSD (szw w) w q.2 := by
  have h1 := TSD_run hot w (szw w) 0 ts0 q.2 ⟨0, by decide, rfl, rfl⟩ (pl1_tl h)
  rw [Nat.zero_add] at h1
  exact h1
theorem pl1_ht {okf : OK} {ot ht : Nat → Int32} {tall : Int32} {nf : Nat} (h5 : nf ≤ 5) {mo : Nat → Int32} {w : Nat} {q : Nat × TS} (h : pl1 okf ot ht tall nf mo w = some q) : ¬ ht q.1 < tall := by
  unfold pl1 at h
  split at h
  · cases h
  · next hn =>
    have h0 : BsQ (fun x => x < 0) (fvF okf ot mo w) ht tall ((0 : Int32), (-1 : Int32)) := Or.inl ⟨rfl, fun f hf => absurd hf (Nat.not_lt_zero _)⟩
    have h1 := bo_Q nf 0 _ (by omega) h0
    rw [Nat.zero_add] at h1
    cases hc : tlR (okf mo (iz (boF okf ot ht tall nf mo w))) ot w (szw w) ts0 with
    | none => rw [hc] at h; cases h
    | some s =>
      rw [hc] at h
      cases h
      rcases h1 with ⟨a1, -⟩ | ⟨b, a1, -, a3⟩
      · exact absurd a1 hn
      · have hb : b < nf := a3.1
        show ¬ ht (iz (boF okf ot ht tall nf mo w)) < tall
        have e : boF okf ot ht tall nf mo w = nI b := a1
        rw [e, iz_nI (by omega)]
        exact a3.2.1.1
/-- each line of a plan: what differs, and how high its fount is -/
def plJ (ht : Nat → Int32) (tall : Int32) (wsz : List Nat) (L : List (Nat × TS)) : Prop := L.length = wsz.length ∧ ∀ (i : Nat) (q : Nat × TS), L[i]? = some q → ¬ ht q.1 < tall ∧ ∃ w, wsz[i]? = some w ∧ TSD (szw w) w q.2
theorem plA_J {okf : OK} {ot ht : Nat → Int32} {tall : Int32} {nf : Nat} (h5 : nf ≤ 5) (hot : otI ot) : ∀ (ws pre : List Nat) (acc : List (Nat × TS)) (mo : Nat → Int32) (a : List (Nat × TS) × (Nat → Int32)), plJ ht tall pre acc → plA okf ot ht tall nf ws acc mo = some a → plJ ht tall (pre ++ ws) a.1 := by
  intro ws
  induction ws with
  | nil => intro pre acc mo a h he; cases he; rw [List.append_nil]; exact h
  | cons w ws ih =>
    intro pre acc mo a h he
    unfold plA at he
    cases hq : pl1 okf ot ht tall nf mo w with
    | none => rw [hq] at he; cases he
    | some q =>
      rw [hq] at he
      have := ih (pre ++ [w]) (acc ++ [q]) (spd mo q) a ⟨by rw [List.length_append, List.length_append, h.1]; rfl, fun i q' hi => by
        by_cases hlt : i < acc.length
        · rw [List.getElem?_append_left hlt] at hi
          obtain ⟨h1, w', h2, h3⟩ := h.2 i q' hi
          exact ⟨h1, w', by rw [List.getElem?_append_left (by rw [← h.1]; exact hlt)]; exact h2, h3⟩
        · have hie : i = acc.length := by
            have h9 := (List.getElem?_eq_some_iff.mp hi).1
            rw [List.length_append, List.length_singleton] at h9
            omega
          subst hie
          rw [List.getElem?_append_right (Nat.le_refl _), Nat.sub_self] at hi
          cases hi
          exact ⟨pl1_ht h5 hq, w, by rw [h.1, List.getElem?_append_right (Nat.le_refl _), Nat.sub_self]; rfl, pl1_TSD hot hq⟩⟩ he
      rw [List.append_assoc] at this
      exact this
theorem sumI_one {f h : Nat → Int32} {p : Nat} : ∀ n, p < n → (∀ k, k ≠ p → f k = h k) → sumI f n = sumI h n + (f p - h p) := by
  intro n
  induction n with
  | zero => intro hp; exact absurd hp (Nat.not_lt_zero _)
  | succ n ih =>
    intro hp hk
    rw [sumI, sumI]
    by_cases hn : n = p
    · rw [hn, sumI_cong (f := f) (h := h) p (fun k hk2 => hk k (by omega))]; grind
    · rw [ih (by omega) hk, hk n hn]; grind
/-- what the posters that are set take of block x -/
def ouT (s : MG) (x p : Nat) : Int32 := if s 15 p = 1 then nI (outO s p (x / 10) (x % 10)) else 0
/-- a line that is set -/
def LnE (s : MG) (j : Nat) (p : Nat) : Prop := tkO s j < 10 ^ szw (wdO s j) ∧ s 19 j = nI (dfD (wdO s j) (tkO s j) (szw (wdO s j))) ∧ ¬ s 5 (iz (s 18 j)) < s 13 p
def IvE (s : MG) : Prop := (∀ p q, p < npO s → s 15 p = 1 → q < nlO s p → LnE s (4 * p + q) p) ∧ (∀ x, x < 50 → s 7 x = sumI (ouT s x) (npO s)) ∧ (∀ f, f < nfO s → 1 ≤ (s 5 f).toInt ∧ (s 5 f).toInt ≤ 20) ∧ ∀ t, t < 4 → (0 ≤ (s 10 t).toInt ∧ (s 10 t).toInt ≤ 9) ∧ 0 ≤ (s 11 t).toInt ∧ (s 11 t).toInt ≤ 30
/-- coins and broken blocks so far -/
def IvC (N : Nat) (s : MG) : Prop := (0 ≤ (s 0 3).toInt ∧ (s 0 3).toInt ≤ 30000 * N) ∧ 0 ≤ (s 0 4).toInt ∧ (s 0 4).toInt ≤ 450 * N
/-- coins and broken blocks are never fewer -/
def Mo (s s' : MG) : Prop := (s 0 3).toInt ≤ (s' 0 3).toInt ∧ (s 0 4).toInt ≤ (s' 0 4).toInt
theorem Mo.rf (s : MG) : Mo s s := ⟨Int.le_refl _, Int.le_refl _⟩
theorem Mo.trans {a b c : MG} (h1 : Mo a b) (h2 : Mo b c) : Mo a c := ⟨Int.le_trans h1.1 h2.1, Int.le_trans h1.2 h2.2⟩
def LE (N : Nat) (s : MG) : Prop := LI N s ∧ IvE s ∧ IvC N s
theorem IvC.up {N : Nat} {s s' : MG} (h : IvC N s) (h3 : s' 0 3 = s 0 3) (h4 : s' 0 4 = s 0 4) : IvC (N + 1) s' := by
  obtain ⟨⟨a1, a2⟩, a3, a4⟩ := h
  refine ⟨?_, ?_⟩
  · rw [h3]; exact ⟨a1, by omega⟩
  · rw [h4]; exact ⟨a3, by omega⟩
theorem Mo.eq {s s' : MG} (h3 : s' 0 3 = s 0 3) (h4 : s' 0 4 = s 0 4) : Mo s s' := by unfold Mo; rw [h3, h4]; exact ⟨Int.le_refl _, Int.le_refl _⟩
theorem outN_c {fr fr' : Nat → Int32} {tk tk' wd wd' : Nat → Nat} {p f c : Nat} : ∀ m, (∀ q, q < m → fr' (4 * p + q) = fr (4 * p + q) ∧ tk' (4 * p + q) = tk (4 * p + q) ∧ wd' (4 * p + q) = wd (4 * p + q)) → outN fr' tk' wd' p f c m = outN fr tk wd p f c m := by
  intro m
  induction m with
  | zero => intro _; rfl
  | succ m ih =>
    intro h
    obtain ⟨a1, a2, a3⟩ := h m (Nat.lt_succ_self m)
    rw [outN, outN, ih (fun q hq => h q (Nat.lt_succ_of_lt hq)), a1, a2, a3]
theorem outO_c {s s' : MG} {p f c : Nat} (hnl : nlO s' p = nlO s p) (h : ∀ q, q < nlO s p → s' 18 (4 * p + q) = s 18 (4 * p + q) ∧ s' 20 (4 * p + q) = s 20 (4 * p + q) ∧ s' 17 (4 * p + q) = s 17 (4 * p + q)) : outO s' p f c = outO s p f c := by
  unfold outO
  rw [hnl]
  exact outN_c _ (fun q hq => ⟨(h q hq).1, congrArg iz (h q hq).2.1, congrArg iz (h q hq).2.2⟩)
theorem ouT_c {s s' : MG} {x p : Nat} (h15 : s' 15 p = s 15 p) (hnl : nlO s' p = nlO s p) (h : ∀ q, q < nlO s p → s' 18 (4 * p + q) = s 18 (4 * p + q) ∧ s' 20 (4 * p + q) = s 20 (4 * p + q) ∧ s' 17 (4 * p + q) = s 17 (4 * p + q)) : ouT s' x p = ouT s x p := by
  unfold ouT
  rw [h15, outO_c hnl h]
theorem LnE.c {s s' : MG} {j p : Nat} (h : LnE s j p) (h17 : s' 17 j = s 17 j) (h18 : s' 18 j = s 18 j) (h19 : s' 19 j = s 19 j) (h20 : s' 20 j = s 20 j) (h13 : s' 13 p = s 13 p) (h5 : s' 5 (iz (s 18 j)) = s 5 (iz (s 18 j))) : LnE s' j p := by
  obtain ⟨a1, a2, a3⟩ := h
  have e1 : tkO s' j = tkO s j := by unfold tkO; rw [h20]
  have e2 : wdO s' j = wdO s j := by unfold wdO; rw [h17]
  refine ⟨by rw [e1, e2]; exact a1, by rw [h19, e1, e2]; exact a2, by rw [h18, h13, h5]; exact a3⟩
/-- what a call leaves that changes no line and no block that is out -/
theorem IvE.same {s s' : MG} (h : IvE s) (h1 : s' 0 1 = s 0 1) (h2 : s' 0 2 = s 0 2) (hs : ∀ k, (k = 5 ∨ k = 7 ∨ (12 ≤ k ∧ k ≤ 15) ∨ (17 ≤ k ∧ k ≤ 20)) → s' k = s k) (ht : ∀ t, t < 4 → (0 ≤ (s' 10 t).toInt ∧ (s' 10 t).toInt ≤ 9) ∧ 0 ≤ (s' 11 t).toInt ∧ (s' 11 t).toInt ≤ 30) : IvE s' := by
  have e1 : nfO s' = nfO s := by unfold nfO; rw [h1]
  have e2 : npO s' = npO s := by unfold npO; rw [h2]
  have e4 : ∀ p, nlO s' p = nlO s p := fun p => by unfold nlO; rw [hs 14 (by omega)]
  refine ⟨fun p q hp hz hq => ?_, fun x hx => ?_, fun f hf => ?_, ht⟩
  · rw [e2] at hp; rw [e4] at hq; rw [hs 15 (by omega)] at hz
    exact (h.1 p q hp hz hq).c (by rw [hs 17 (by omega)]) (by rw [hs 18 (by omega)]) (by rw [hs 19 (by omega)]) (by rw [hs 20 (by omega)]) (by rw [hs 13 (by omega)]) (by rw [hs 5 (by omega)])
  · rw [e2, hs 7 (by omega), h.2.1 x hx]
    exact (sumI_cong _ (fun p _ => ouT_c (by rw [hs 15 (by omega)]) (e4 p) (fun q _ => ⟨by rw [hs 18 (by omega)], by rw [hs 20 (by omega)], by rw [hs 17 (by omega)]⟩))).symm
  · rw [e1] at hf; rw [hs 5 (by omega)]; exact h.2.2.1 f hf
theorem IvE.rf {s : MG} (h : IvE s) : IvE s := h
